/-! steps of PulledCrystalModel, by program -/
theorem hB_X12_summed : jB 217 = cX12_summed := rfl
theorem hO_X12_summed : jO 217 = 12 := rfl
theorem hR_X12_summed : jRt 217 = (some .boolean) := rfl
theorem nX12_summed (d : Nat) (x0 : Nat) (x1 : Int32) (m : jmM) (Q : Option Value → jmM → Prop) : CC (d + 1) 217 [.ref x0, .int x1] m Q ↔ AW d 217 0 [some (.ref x0), some (.int x1), none] [] m Q := CC_body (Nat.le_of_ble_eq_true rfl)
theorem dX12_summed_0 : decode cX12_summed 0 = .ok (.bipush 60, 2) := by decide +kernel
theorem tX12_summed_0 {d : Nat} {l0 l1 l2 : Option Value} {m : jmM} {Q : Option Value → jmM → Prop} : AW d 217 0 [l0, l1, l2] [] m Q ↔ AW d 217 2 [l0, l1, l2] [.int 60] m Q := A_bipush hB_X12_summed dX12_summed_0 rfl
theorem dX12_summed_2 : decode cX12_summed 2 = .ok (.aload_n 0, 1) := by decide +kernel
theorem tX12_summed_2 {d : Nat} {l1 l2 : Option Value} {v0 : Value} {x : Nat} {m : jmM} {Q : Option Value → jmM → Prop} : AW d 217 2 [some (.ref x), l1, l2] [v0] m Q ↔ AW d 217 3 [some (.ref x), l1, l2] [.ref x, v0] m Q := A_aload_n hB_X12_summed dX12_summed_2 rfl
theorem dX12_summed_3 : decode cX12_summed 3 = .ok (.getfield 157, 3) := by decide +kernel
theorem tX12_summed_3 {d : Nat} {l0 l1 l2 : Option Value} {v1 : Value} {a : Nat} {m : jmM} {Q : Option Value → jmM → Prop} : AW d 217 3 [l0, l1, l2] [.ref a, v1] m Q ↔ (mS m a).1 = 12 ∧ AW d 217 6 [l0, l1, l2] [.int (mI m a 14), v1] m Q := A_getfield (f := fun m a => .int (mI m a 14)) hB_X12_summed dX12_summed_3 hO_X12_summed fF_12_157 rfl
theorem dX12_summed_6 : decode cX12_summed 6 = .ok (.imul, 1) := by decide +kernel
theorem tX12_summed_6 {d : Nat} {l0 l1 l2 : Option Value} {x y : Int32} {m : jmM} {Q : Option Value → jmM → Prop} : AW d 217 6 [l0, l1, l2] [.int y, .int x] m Q ↔ AW d 217 7 [l0, l1, l2] [.int (x * y)] m Q := A_imul hB_X12_summed dX12_summed_6
theorem dX12_summed_7 : decode cX12_summed 7 = .ok (.iconst 5, 1) := by decide +kernel
theorem tX12_summed_7 {d : Nat} {l0 l1 l2 : Option Value} {v0 : Value} {m : jmM} {Q : Option Value → jmM → Prop} : AW d 217 7 [l0, l1, l2] [v0] m Q ↔ AW d 217 8 [l0, l1, l2] [.int 5, v0] m Q := A_iconst hB_X12_summed dX12_summed_7 (by decide)
theorem dX12_summed_8 : decode cX12_summed 8 = .ok (.aload_n 0, 1) := by decide +kernel
theorem tX12_summed_8 {d : Nat} {l1 l2 : Option Value} {v0 v1 : Value} {x : Nat} {m : jmM} {Q : Option Value → jmM → Prop} : AW d 217 8 [some (.ref x), l1, l2] [v0, v1] m Q ↔ AW d 217 9 [some (.ref x), l1, l2] [.ref x, v0, v1] m Q := A_aload_n hB_X12_summed dX12_summed_8 rfl
theorem dX12_summed_9 : decode cX12_summed 9 = .ok (.getfield 23, 3) := by decide +kernel
theorem tX12_summed_9 {d : Nat} {l0 l1 l2 : Option Value} {v1 v2 : Value} {a : Nat} {m : jmM} {Q : Option Value → jmM → Prop} : AW d 217 9 [l0, l1, l2] [.ref a, v1, v2] m Q ↔ (mS m a).1 = 12 ∧ AW d 217 12 [l0, l1, l2] [va_rf (mR m a 5), v1, v2] m Q := A_getfield (f := fun m a => va_rf (mR m a 5)) hB_X12_summed dX12_summed_9 hO_X12_summed fF_12_23 rfl
theorem dX12_summed_12 : decode cX12_summed 12 = .ok (.aload_n 0, 1) := by decide +kernel
theorem tX12_summed_12 {d : Nat} {l1 l2 : Option Value} {v0 v1 v2 : Value} {x : Nat} {m : jmM} {Q : Option Value → jmM → Prop} : AW d 217 12 [some (.ref x), l1, l2] [v0, v1, v2] m Q ↔ AW d 217 13 [some (.ref x), l1, l2] [.ref x, v0, v1, v2] m Q := A_aload_n hB_X12_summed dX12_summed_12 rfl
theorem dX12_summed_13 : decode cX12_summed 13 = .ok (.getfield 157, 3) := by decide +kernel
theorem tX12_summed_13 {d : Nat} {l0 l1 l2 : Option Value} {v1 v2 v3 : Value} {a : Nat} {m : jmM} {Q : Option Value → jmM → Prop} : AW d 217 13 [l0, l1, l2] [.ref a, v1, v2, v3] m Q ↔ (mS m a).1 = 12 ∧ AW d 217 16 [l0, l1, l2] [.int (mI m a 14), v1, v2, v3] m Q := A_getfield (f := fun m a => .int (mI m a 14)) hB_X12_summed dX12_summed_13 hO_X12_summed fF_12_157 rfl
theorem dX12_summed_16 : decode cX12_summed 16 = .ok (.iaload, 1) := by decide +kernel
theorem tX12_summed_16 {d : Nat} {l0 l1 l2 : Option Value} {v2 v3 : Value} {i : Int32} {a : Nat} {m : jmM} {Q : Option Value → jmM → Prop} : AW d 217 16 [l0, l1, l2] [.int i, .ref a, v2, v3] m Q ↔ (((mS m a).1 = 20 ∨ a = jScr) ∧ jIx i (mS m a).2) ∧ AW d 217 17 [l0, l1, l2] [.int (mI m a (jx i)), v2, v3] m Q := A_iaload hB_X12_summed dX12_summed_16
theorem dX12_summed_17 : decode cX12_summed 17 = .ok (.imul, 1) := by decide +kernel
theorem tX12_summed_17 {d : Nat} {l0 l1 l2 : Option Value} {v2 : Value} {x y : Int32} {m : jmM} {Q : Option Value → jmM → Prop} : AW d 217 17 [l0, l1, l2] [.int y, .int x, v2] m Q ↔ AW d 217 18 [l0, l1, l2] [.int (x * y), v2] m Q := A_imul hB_X12_summed dX12_summed_17
theorem dX12_summed_18 : decode cX12_summed 18 = .ok (.iadd, 1) := by decide +kernel
theorem tX12_summed_18 {d : Nat} {l0 l1 l2 : Option Value} {x y : Int32} {m : jmM} {Q : Option Value → jmM → Prop} : AW d 217 18 [l0, l1, l2] [.int y, .int x] m Q ↔ AW d 217 19 [l0, l1, l2] [.int (x + y)] m Q := A_iadd hB_X12_summed dX12_summed_18
theorem dX12_summed_19 : decode cX12_summed 19 = .ok (.istore_n 2, 1) := by decide +kernel
theorem tX12_summed_19 {d : Nat} {l0 l1 l2 : Option Value} {x : Int32} {m : jmM} {Q : Option Value → jmM → Prop} : AW d 217 19 [l0, l1, l2] [.int x] m Q ↔ AW d 217 20 [l0, jc1 l1, some (.int x)] [] m Q := A_istore_n hB_X12_summed dX12_summed_19 (Nat.le_of_ble_eq_true rfl) rfl
theorem dX12_summed_20 : decode cX12_summed 20 = .ok (.aload_n 0, 1) := by decide +kernel
theorem tX12_summed_20 {d : Nat} {l1 l2 : Option Value} {x : Nat} {m : jmM} {Q : Option Value → jmM → Prop} : AW d 217 20 [some (.ref x), l1, l2] [] m Q ↔ AW d 217 21 [some (.ref x), l1, l2] [.ref x] m Q := A_aload_n hB_X12_summed dX12_summed_20 rfl
theorem dX12_summed_21 : decode cX12_summed 21 = .ok (.getfield 20, 3) := by decide +kernel
theorem tX12_summed_21 {d : Nat} {l0 l1 l2 : Option Value} {a : Nat} {m : jmM} {Q : Option Value → jmM → Prop} : AW d 217 21 [l0, l1, l2] [.ref a] m Q ↔ (mS m a).1 = 12 ∧ AW d 217 24 [l0, l1, l2] [va_rf (mR m a 4)] m Q := A_getfield (f := fun m a => va_rf (mR m a 4)) hB_X12_summed dX12_summed_21 hO_X12_summed fF_12_20 rfl
theorem dX12_summed_24 : decode cX12_summed 24 = .ok (.iload_n 2, 1) := by decide +kernel
theorem tX12_summed_24 {d : Nat} {l0 l1 : Option Value} {v0 : Value} {x : Int32} {m : jmM} {Q : Option Value → jmM → Prop} : AW d 217 24 [l0, l1, some (.int x)] [v0] m Q ↔ AW d 217 25 [l0, l1, some (.int x)] [.int x, v0] m Q := A_iload_n hB_X12_summed dX12_summed_24 rfl
theorem dX12_summed_25 : decode cX12_summed 25 = .ok (.iload_n 1, 1) := by decide +kernel
theorem tX12_summed_25 {d : Nat} {l0 l2 : Option Value} {v0 v1 : Value} {x : Int32} {m : jmM} {Q : Option Value → jmM → Prop} : AW d 217 25 [l0, some (.int x), l2] [v0, v1] m Q ↔ AW d 217 26 [l0, some (.int x), l2] [.int x, v0, v1] m Q := A_iload_n hB_X12_summed dX12_summed_25 rfl
theorem dX12_summed_26 : decode cX12_summed 26 = .ok (.iastore, 1) := by decide +kernel
theorem tX12_summed_26 {d : Nat} {l0 l1 l2 : Option Value} {x i : Int32} {a : Nat} {m : jmM} {Q : Option Value → jmM → Prop} : AW d 217 26 [l0, l1, l2] [.int x, .int i, .ref a] m Q ↔ ((mS m a).1 = 20 ∧ jIx i (mS m a).2) ∧ AW d 217 27 [l0, l1, l2] [] (cI m a (jup (mI m a) (jx i) x)) Q := A_iastore hB_X12_summed dX12_summed_26
theorem dX12_summed_27 : decode cX12_summed 27 = .ok (.aload_n 0, 1) := by decide +kernel
theorem tX12_summed_27 {d : Nat} {l1 l2 : Option Value} {x : Nat} {m : jmM} {Q : Option Value → jmM → Prop} : AW d 217 27 [some (.ref x), l1, l2] [] m Q ↔ AW d 217 28 [some (.ref x), l1, l2] [.ref x] m Q := A_aload_n hB_X12_summed dX12_summed_27 rfl
theorem dX12_summed_28 : decode cX12_summed 28 = .ok (.getfield 20, 3) := by decide +kernel
theorem tX12_summed_28 {d : Nat} {l0 l1 l2 : Option Value} {a : Nat} {m : jmM} {Q : Option Value → jmM → Prop} : AW d 217 28 [l0, l1, l2] [.ref a] m Q ↔ (mS m a).1 = 12 ∧ AW d 217 31 [l0, l1, l2] [va_rf (mR m a 4)] m Q := A_getfield (f := fun m a => va_rf (mR m a 4)) hB_X12_summed dX12_summed_28 hO_X12_summed fF_12_20 rfl
theorem dX12_summed_31 : decode cX12_summed 31 = .ok (.iload_n 2, 1) := by decide +kernel
theorem tX12_summed_31 {d : Nat} {l0 l1 : Option Value} {v0 : Value} {x : Int32} {m : jmM} {Q : Option Value → jmM → Prop} : AW d 217 31 [l0, l1, some (.int x)] [v0] m Q ↔ AW d 217 32 [l0, l1, some (.int x)] [.int x, v0] m Q := A_iload_n hB_X12_summed dX12_summed_31 rfl
theorem dX12_summed_32 : decode cX12_summed 32 = .ok (.iconst 1, 1) := by decide +kernel
theorem tX12_summed_32 {d : Nat} {l0 l1 l2 : Option Value} {v0 v1 : Value} {m : jmM} {Q : Option Value → jmM → Prop} : AW d 217 32 [l0, l1, l2] [v0, v1] m Q ↔ AW d 217 33 [l0, l1, l2] [.int 1, v0, v1] m Q := A_iconst hB_X12_summed dX12_summed_32 (by decide)
theorem dX12_summed_33 : decode cX12_summed 33 = .ok (.iadd, 1) := by decide +kernel
theorem tX12_summed_33 {d : Nat} {l0 l1 l2 : Option Value} {v2 : Value} {x y : Int32} {m : jmM} {Q : Option Value → jmM → Prop} : AW d 217 33 [l0, l1, l2] [.int y, .int x, v2] m Q ↔ AW d 217 34 [l0, l1, l2] [.int (x + y), v2] m Q := A_iadd hB_X12_summed dX12_summed_33
theorem dX12_summed_34 : decode cX12_summed 34 = .ok (.aload_n 0, 1) := by decide +kernel
theorem tX12_summed_34 {d : Nat} {l1 l2 : Option Value} {v0 v1 : Value} {x : Nat} {m : jmM} {Q : Option Value → jmM → Prop} : AW d 217 34 [some (.ref x), l1, l2] [v0, v1] m Q ↔ AW d 217 35 [some (.ref x), l1, l2] [.ref x, v0, v1] m Q := A_aload_n hB_X12_summed dX12_summed_34 rfl
theorem dX12_summed_35 : decode cX12_summed 35 = .ok (.getfield 17, 3) := by decide +kernel
theorem tX12_summed_35 {d : Nat} {l0 l1 l2 : Option Value} {v1 v2 : Value} {a : Nat} {m : jmM} {Q : Option Value → jmM → Prop} : AW d 217 35 [l0, l1, l2] [.ref a, v1, v2] m Q ↔ (mS m a).1 = 12 ∧ AW d 217 38 [l0, l1, l2] [va_rf (mR m a 3), v1, v2] m Q := A_getfield (f := fun m a => va_rf (mR m a 3)) hB_X12_summed dX12_summed_35 hO_X12_summed fF_12_17 rfl
theorem dX12_summed_38 : decode cX12_summed 38 = .ok (.aload_n 0, 1) := by decide +kernel
theorem tX12_summed_38 {d : Nat} {l1 l2 : Option Value} {v0 v1 v2 : Value} {x : Nat} {m : jmM} {Q : Option Value → jmM → Prop} : AW d 217 38 [some (.ref x), l1, l2] [v0, v1, v2] m Q ↔ AW d 217 39 [some (.ref x), l1, l2] [.ref x, v0, v1, v2] m Q := A_aload_n hB_X12_summed dX12_summed_38 rfl
theorem dX12_summed_39 : decode cX12_summed 39 = .ok (.getfield 157, 3) := by decide +kernel
theorem tX12_summed_39 {d : Nat} {l0 l1 l2 : Option Value} {v1 v2 v3 : Value} {a : Nat} {m : jmM} {Q : Option Value → jmM → Prop} : AW d 217 39 [l0, l1, l2] [.ref a, v1, v2, v3] m Q ↔ (mS m a).1 = 12 ∧ AW d 217 42 [l0, l1, l2] [.int (mI m a 14), v1, v2, v3] m Q := A_getfield (f := fun m a => .int (mI m a 14)) hB_X12_summed dX12_summed_39 hO_X12_summed fF_12_157 rfl
theorem dX12_summed_42 : decode cX12_summed 42 = .ok (.iaload, 1) := by decide +kernel
theorem tX12_summed_42 {d : Nat} {l0 l1 l2 : Option Value} {v2 v3 : Value} {i : Int32} {a : Nat} {m : jmM} {Q : Option Value → jmM → Prop} : AW d 217 42 [l0, l1, l2] [.int i, .ref a, v2, v3] m Q ↔ (((mS m a).1 = 20 ∨ a = jScr) ∧ jIx i (mS m a).2) ∧ AW d 217 43 [l0, l1, l2] [.int (mI m a (jx i)), v2, v3] m Q := A_iaload hB_X12_summed dX12_summed_42
theorem dX12_summed_43 : decode cX12_summed 43 = .ok (.iastore, 1) := by decide +kernel
theorem tX12_summed_43 {d : Nat} {l0 l1 l2 : Option Value} {x i : Int32} {a : Nat} {m : jmM} {Q : Option Value → jmM → Prop} : AW d 217 43 [l0, l1, l2] [.int x, .int i, .ref a] m Q ↔ ((mS m a).1 = 20 ∧ jIx i (mS m a).2) ∧ AW d 217 44 [l0, l1, l2] [] (cI m a (jup (mI m a) (jx i) x)) Q := A_iastore hB_X12_summed dX12_summed_43
theorem dX12_summed_44 : decode cX12_summed 44 = .ok (.aload_n 0, 1) := by decide +kernel
theorem tX12_summed_44 {d : Nat} {l1 l2 : Option Value} {x : Nat} {m : jmM} {Q : Option Value → jmM → Prop} : AW d 217 44 [some (.ref x), l1, l2] [] m Q ↔ AW d 217 45 [some (.ref x), l1, l2] [.ref x] m Q := A_aload_n hB_X12_summed dX12_summed_44 rfl
theorem dX12_summed_45 : decode cX12_summed 45 = .ok (.invokevirtual 203, 3) := by decide +kernel
theorem tX12_summed_45 {d : Nat} {l0 l1 l2 : Option Value} {a : Nat} {m : jmM} {Q : Option Value → jmM → Prop} : AW d 217 45 [l0, l1, l2] [.ref a] m Q ↔ (mS m a).1 = 12 ∧ CC d 211 [.ref a] m (jK d 217 48 [l0, l1, l2] [] Q) := A_callV hB_X12_summed dX12_summed_45 hO_X12_summed fS_12_203 ⟨Nat.le_of_ble_eq_true rfl, Nat.le_of_ble_eq_true rfl⟩ rfl rfl rfl
theorem dX12_summed_48 : decode cX12_summed 48 = .ok (.ifCond .ne 5, 3) := by decide +kernel
theorem tX12_summed_48 {d : Nat} {l0 l1 l2 : Option Value} {x : Int32} {m : jmM} {Q : Option Value → jmM → Prop} : AW d 217 48 [l0, l1, l2] [.int x] m Q ↔ if x = 0 then AW d 217 51 [l0, l1, l2] [] m Q else AW d 217 53 [l0, l1, l2] [] m Q := A_if_ne hB_X12_summed dX12_summed_48 (by decide)
theorem dX12_summed_51 : decode cX12_summed 51 = .ok (.iconst 0, 1) := by decide +kernel
theorem tX12_summed_51 {d : Nat} {l0 l1 l2 : Option Value} {m : jmM} {Q : Option Value → jmM → Prop} : AW d 217 51 [l0, l1, l2] [] m Q ↔ AW d 217 52 [l0, l1, l2] [.int 0] m Q := A_iconst hB_X12_summed dX12_summed_51 (by decide)
theorem dX12_summed_52 : decode cX12_summed 52 = .ok (.ireturn, 1) := by decide +kernel
theorem tX12_summed_52 {d : Nat} {l0 l1 l2 : Option Value} {x : Int32} {m : jmM} {Q : Option Value → jmM → Prop} : AW d 217 52 [l0, l1, l2] [.int x] m Q ↔ jBool x ∧ Q (some (.int x)) m := A_zreturn hB_X12_summed dX12_summed_52 hR_X12_summed
theorem dX12_summed_53 : decode cX12_summed 53 = .ok (.aload_n 0, 1) := by decide +kernel
theorem tX12_summed_53 {d : Nat} {l1 l2 : Option Value} {x : Nat} {m : jmM} {Q : Option Value → jmM → Prop} : AW d 217 53 [some (.ref x), l1, l2] [] m Q ↔ AW d 217 54 [some (.ref x), l1, l2] [.ref x] m Q := A_aload_n hB_X12_summed dX12_summed_53 rfl
theorem dX12_summed_54 : decode cX12_summed 54 = .ok (.getfield 20, 3) := by decide +kernel
theorem tX12_summed_54 {d : Nat} {l0 l1 l2 : Option Value} {a : Nat} {m : jmM} {Q : Option Value → jmM → Prop} : AW d 217 54 [l0, l1, l2] [.ref a] m Q ↔ (mS m a).1 = 12 ∧ AW d 217 57 [l0, l1, l2] [va_rf (mR m a 4)] m Q := A_getfield (f := fun m a => va_rf (mR m a 4)) hB_X12_summed dX12_summed_54 hO_X12_summed fF_12_20 rfl
theorem dX12_summed_57 : decode cX12_summed 57 = .ok (.iload_n 2, 1) := by decide +kernel
theorem tX12_summed_57 {d : Nat} {l0 l1 : Option Value} {v0 : Value} {x : Int32} {m : jmM} {Q : Option Value → jmM → Prop} : AW d 217 57 [l0, l1, some (.int x)] [v0] m Q ↔ AW d 217 58 [l0, l1, some (.int x)] [.int x, v0] m Q := A_iload_n hB_X12_summed dX12_summed_57 rfl
theorem dX12_summed_58 : decode cX12_summed 58 = .ok (.iconst 2, 1) := by decide +kernel
theorem tX12_summed_58 {d : Nat} {l0 l1 l2 : Option Value} {v0 v1 : Value} {m : jmM} {Q : Option Value → jmM → Prop} : AW d 217 58 [l0, l1, l2] [v0, v1] m Q ↔ AW d 217 59 [l0, l1, l2] [.int 2, v0, v1] m Q := A_iconst hB_X12_summed dX12_summed_58 (by decide)
theorem dX12_summed_59 : decode cX12_summed 59 = .ok (.iadd, 1) := by decide +kernel
theorem tX12_summed_59 {d : Nat} {l0 l1 l2 : Option Value} {v2 : Value} {x y : Int32} {m : jmM} {Q : Option Value → jmM → Prop} : AW d 217 59 [l0, l1, l2] [.int y, .int x, v2] m Q ↔ AW d 217 60 [l0, l1, l2] [.int (x + y), v2] m Q := A_iadd hB_X12_summed dX12_summed_59
theorem dX12_summed_60 : decode cX12_summed 60 = .ok (.aload_n 0, 1) := by decide +kernel
theorem tX12_summed_60 {d : Nat} {l1 l2 : Option Value} {v0 v1 : Value} {x : Nat} {m : jmM} {Q : Option Value → jmM → Prop} : AW d 217 60 [some (.ref x), l1, l2] [v0, v1] m Q ↔ AW d 217 61 [some (.ref x), l1, l2] [.ref x, v0, v1] m Q := A_aload_n hB_X12_summed dX12_summed_60 rfl
theorem dX12_summed_61 : decode cX12_summed 61 = .ok (.getfield 17, 3) := by decide +kernel
theorem tX12_summed_61 {d : Nat} {l0 l1 l2 : Option Value} {v1 v2 : Value} {a : Nat} {m : jmM} {Q : Option Value → jmM → Prop} : AW d 217 61 [l0, l1, l2] [.ref a, v1, v2] m Q ↔ (mS m a).1 = 12 ∧ AW d 217 64 [l0, l1, l2] [va_rf (mR m a 3), v1, v2] m Q := A_getfield (f := fun m a => va_rf (mR m a 3)) hB_X12_summed dX12_summed_61 hO_X12_summed fF_12_17 rfl
theorem dX12_summed_64 : decode cX12_summed 64 = .ok (.aload_n 0, 1) := by decide +kernel
theorem tX12_summed_64 {d : Nat} {l1 l2 : Option Value} {v0 v1 v2 : Value} {x : Nat} {m : jmM} {Q : Option Value → jmM → Prop} : AW d 217 64 [some (.ref x), l1, l2] [v0, v1, v2] m Q ↔ AW d 217 65 [some (.ref x), l1, l2] [.ref x, v0, v1, v2] m Q := A_aload_n hB_X12_summed dX12_summed_64 rfl
theorem dX12_summed_65 : decode cX12_summed 65 = .ok (.getfield 157, 3) := by decide +kernel
theorem tX12_summed_65 {d : Nat} {l0 l1 l2 : Option Value} {v1 v2 v3 : Value} {a : Nat} {m : jmM} {Q : Option Value → jmM → Prop} : AW d 217 65 [l0, l1, l2] [.ref a, v1, v2, v3] m Q ↔ (mS m a).1 = 12 ∧ AW d 217 68 [l0, l1, l2] [.int (mI m a 14), v1, v2, v3] m Q := A_getfield (f := fun m a => .int (mI m a 14)) hB_X12_summed dX12_summed_65 hO_X12_summed fF_12_157 rfl
theorem dX12_summed_68 : decode cX12_summed 68 = .ok (.iaload, 1) := by decide +kernel
theorem tX12_summed_68 {d : Nat} {l0 l1 l2 : Option Value} {v2 v3 : Value} {i : Int32} {a : Nat} {m : jmM} {Q : Option Value → jmM → Prop} : AW d 217 68 [l0, l1, l2] [.int i, .ref a, v2, v3] m Q ↔ (((mS m a).1 = 20 ∨ a = jScr) ∧ jIx i (mS m a).2) ∧ AW d 217 69 [l0, l1, l2] [.int (mI m a (jx i)), v2, v3] m Q := A_iaload hB_X12_summed dX12_summed_68
theorem dX12_summed_69 : decode cX12_summed 69 = .ok (.iastore, 1) := by decide +kernel
theorem tX12_summed_69 {d : Nat} {l0 l1 l2 : Option Value} {x i : Int32} {a : Nat} {m : jmM} {Q : Option Value → jmM → Prop} : AW d 217 69 [l0, l1, l2] [.int x, .int i, .ref a] m Q ↔ ((mS m a).1 = 20 ∧ jIx i (mS m a).2) ∧ AW d 217 70 [l0, l1, l2] [] (cI m a (jup (mI m a) (jx i) x)) Q := A_iastore hB_X12_summed dX12_summed_69
theorem dX12_summed_70 : decode cX12_summed 70 = .ok (.aload_n 0, 1) := by decide +kernel
theorem tX12_summed_70 {d : Nat} {l1 l2 : Option Value} {x : Nat} {m : jmM} {Q : Option Value → jmM → Prop} : AW d 217 70 [some (.ref x), l1, l2] [] m Q ↔ AW d 217 71 [some (.ref x), l1, l2] [.ref x] m Q := A_aload_n hB_X12_summed dX12_summed_70 rfl
theorem dX12_summed_71 : decode cX12_summed 71 = .ok (.getfield 20, 3) := by decide +kernel
theorem tX12_summed_71 {d : Nat} {l0 l1 l2 : Option Value} {a : Nat} {m : jmM} {Q : Option Value → jmM → Prop} : AW d 217 71 [l0, l1, l2] [.ref a] m Q ↔ (mS m a).1 = 12 ∧ AW d 217 74 [l0, l1, l2] [va_rf (mR m a 4)] m Q := A_getfield (f := fun m a => va_rf (mR m a 4)) hB_X12_summed dX12_summed_71 hO_X12_summed fF_12_20 rfl
theorem dX12_summed_74 : decode cX12_summed 74 = .ok (.iload_n 2, 1) := by decide +kernel
theorem tX12_summed_74 {d : Nat} {l0 l1 : Option Value} {v0 : Value} {x : Int32} {m : jmM} {Q : Option Value → jmM → Prop} : AW d 217 74 [l0, l1, some (.int x)] [v0] m Q ↔ AW d 217 75 [l0, l1, some (.int x)] [.int x, v0] m Q := A_iload_n hB_X12_summed dX12_summed_74 rfl
theorem dX12_summed_75 : decode cX12_summed 75 = .ok (.iconst 3, 1) := by decide +kernel
theorem tX12_summed_75 {d : Nat} {l0 l1 l2 : Option Value} {v0 v1 : Value} {m : jmM} {Q : Option Value → jmM → Prop} : AW d 217 75 [l0, l1, l2] [v0, v1] m Q ↔ AW d 217 76 [l0, l1, l2] [.int 3, v0, v1] m Q := A_iconst hB_X12_summed dX12_summed_75 (by decide)
theorem dX12_summed_76 : decode cX12_summed 76 = .ok (.iadd, 1) := by decide +kernel
theorem tX12_summed_76 {d : Nat} {l0 l1 l2 : Option Value} {v2 : Value} {x y : Int32} {m : jmM} {Q : Option Value → jmM → Prop} : AW d 217 76 [l0, l1, l2] [.int y, .int x, v2] m Q ↔ AW d 217 77 [l0, l1, l2] [.int (x + y), v2] m Q := A_iadd hB_X12_summed dX12_summed_76
theorem dX12_summed_77 : decode cX12_summed 77 = .ok (.iconst (-1), 1) := by decide +kernel
theorem tX12_summed_77 {d : Nat} {l0 l1 l2 : Option Value} {v0 v1 : Value} {m : jmM} {Q : Option Value → jmM → Prop} : AW d 217 77 [l0, l1, l2] [v0, v1] m Q ↔ AW d 217 78 [l0, l1, l2] [.int (-1), v0, v1] m Q := A_iconst hB_X12_summed dX12_summed_77 (by decide)
theorem dX12_summed_78 : decode cX12_summed 78 = .ok (.iastore, 1) := by decide +kernel
theorem tX12_summed_78 {d : Nat} {l0 l1 l2 : Option Value} {x i : Int32} {a : Nat} {m : jmM} {Q : Option Value → jmM → Prop} : AW d 217 78 [l0, l1, l2] [.int x, .int i, .ref a] m Q ↔ ((mS m a).1 = 20 ∧ jIx i (mS m a).2) ∧ AW d 217 79 [l0, l1, l2] [] (cI m a (jup (mI m a) (jx i) x)) Q := A_iastore hB_X12_summed dX12_summed_78
theorem dX12_summed_79 : decode cX12_summed 79 = .ok (.aload_n 0, 1) := by decide +kernel
theorem tX12_summed_79 {d : Nat} {l1 l2 : Option Value} {x : Nat} {m : jmM} {Q : Option Value → jmM → Prop} : AW d 217 79 [some (.ref x), l1, l2] [] m Q ↔ AW d 217 80 [some (.ref x), l1, l2] [.ref x] m Q := A_aload_n hB_X12_summed dX12_summed_79 rfl
theorem dX12_summed_80 : decode cX12_summed 80 = .ok (.ldc2_w 224, 3) := by decide +kernel
theorem tX12_summed_80 {d : Nat} {l0 l1 l2 : Option Value} {v0 : Value} {m : jmM} {Q : Option Value → jmM → Prop} : AW d 217 80 [l0, l1, l2] [v0] m Q ↔ AW d 217 83 [l0, l1, l2] [.long 26982, v0] m Q := A_ldc2_w hB_X12_summed dX12_summed_80 hO_X12_summed fL2_12_224
theorem dX12_summed_83 : decode cX12_summed 83 = .ok (.invokevirtual 226, 3) := by decide +kernel
theorem tX12_summed_83 {d : Nat} {l0 l1 l2 : Option Value} {y0 : Value} {a : Nat} {m : jmM} {Q : Option Value → jmM → Prop} : AW d 217 83 [l0, l1, l2] [y0, .ref a] m Q ↔ (mS m a).1 = 12 ∧ CC d 200 [.ref a, y0] m (jK d 217 86 [l0, l1, l2] [] Q) := A_callV hB_X12_summed dX12_summed_83 hO_X12_summed fS_12_226 ⟨Nat.le_of_ble_eq_true rfl, Nat.le_of_ble_eq_true rfl⟩ rfl rfl rfl
theorem dX12_summed_86 : decode cX12_summed 86 = .ok (.ifCond .eq 29, 3) := by decide +kernel
theorem tX12_summed_86 {d : Nat} {l0 l1 l2 : Option Value} {x : Int32} {m : jmM} {Q : Option Value → jmM → Prop} : AW d 217 86 [l0, l1, l2] [.int x] m Q ↔ if x = 0 then AW d 217 115 [l0, l1, l2] [] m Q else AW d 217 89 [l0, l1, l2] [] m Q := A_if_eq hB_X12_summed dX12_summed_86 (by decide)
theorem dX12_summed_89 : decode cX12_summed 89 = .ok (.aload_n 0, 1) := by decide +kernel
theorem tX12_summed_89 {d : Nat} {l1 l2 : Option Value} {x : Nat} {m : jmM} {Q : Option Value → jmM → Prop} : AW d 217 89 [some (.ref x), l1, l2] [] m Q ↔ AW d 217 90 [some (.ref x), l1, l2] [.ref x] m Q := A_aload_n hB_X12_summed dX12_summed_89 rfl
theorem dX12_summed_90 : decode cX12_summed 90 = .ok (.getfield 20, 3) := by decide +kernel
theorem tX12_summed_90 {d : Nat} {l0 l1 l2 : Option Value} {a : Nat} {m : jmM} {Q : Option Value → jmM → Prop} : AW d 217 90 [l0, l1, l2] [.ref a] m Q ↔ (mS m a).1 = 12 ∧ AW d 217 93 [l0, l1, l2] [va_rf (mR m a 4)] m Q := A_getfield (f := fun m a => va_rf (mR m a 4)) hB_X12_summed dX12_summed_90 hO_X12_summed fF_12_20 rfl
theorem dX12_summed_93 : decode cX12_summed 93 = .ok (.iload_n 2, 1) := by decide +kernel
theorem tX12_summed_93 {d : Nat} {l0 l1 : Option Value} {v0 : Value} {x : Int32} {m : jmM} {Q : Option Value → jmM → Prop} : AW d 217 93 [l0, l1, some (.int x)] [v0] m Q ↔ AW d 217 94 [l0, l1, some (.int x)] [.int x, v0] m Q := A_iload_n hB_X12_summed dX12_summed_93 rfl
theorem dX12_summed_94 : decode cX12_summed 94 = .ok (.iconst 3, 1) := by decide +kernel
theorem tX12_summed_94 {d : Nat} {l0 l1 l2 : Option Value} {v0 v1 : Value} {m : jmM} {Q : Option Value → jmM → Prop} : AW d 217 94 [l0, l1, l2] [v0, v1] m Q ↔ AW d 217 95 [l0, l1, l2] [.int 3, v0, v1] m Q := A_iconst hB_X12_summed dX12_summed_94 (by decide)
theorem dX12_summed_95 : decode cX12_summed 95 = .ok (.iadd, 1) := by decide +kernel
theorem tX12_summed_95 {d : Nat} {l0 l1 l2 : Option Value} {v2 : Value} {x y : Int32} {m : jmM} {Q : Option Value → jmM → Prop} : AW d 217 95 [l0, l1, l2] [.int y, .int x, v2] m Q ↔ AW d 217 96 [l0, l1, l2] [.int (x + y), v2] m Q := A_iadd hB_X12_summed dX12_summed_95
theorem dX12_summed_96 : decode cX12_summed 96 = .ok (.aload_n 0, 1) := by decide +kernel
theorem tX12_summed_96 {d : Nat} {l1 l2 : Option Value} {v0 v1 : Value} {x : Nat} {m : jmM} {Q : Option Value → jmM → Prop} : AW d 217 96 [some (.ref x), l1, l2] [v0, v1] m Q ↔ AW d 217 97 [some (.ref x), l1, l2] [.ref x, v0, v1] m Q := A_aload_n hB_X12_summed dX12_summed_96 rfl
theorem dX12_summed_97 : decode cX12_summed 97 = .ok (.getfield 17, 3) := by decide +kernel
theorem tX12_summed_97 {d : Nat} {l0 l1 l2 : Option Value} {v1 v2 : Value} {a : Nat} {m : jmM} {Q : Option Value → jmM → Prop} : AW d 217 97 [l0, l1, l2] [.ref a, v1, v2] m Q ↔ (mS m a).1 = 12 ∧ AW d 217 100 [l0, l1, l2] [va_rf (mR m a 3), v1, v2] m Q := A_getfield (f := fun m a => va_rf (mR m a 3)) hB_X12_summed dX12_summed_97 hO_X12_summed fF_12_17 rfl
theorem dX12_summed_100 : decode cX12_summed 100 = .ok (.aload_n 0, 1) := by decide +kernel
theorem tX12_summed_100 {d : Nat} {l1 l2 : Option Value} {v0 v1 v2 : Value} {x : Nat} {m : jmM} {Q : Option Value → jmM → Prop} : AW d 217 100 [some (.ref x), l1, l2] [v0, v1, v2] m Q ↔ AW d 217 101 [some (.ref x), l1, l2] [.ref x, v0, v1, v2] m Q := A_aload_n hB_X12_summed dX12_summed_100 rfl
theorem dX12_summed_101 : decode cX12_summed 101 = .ok (.getfield 157, 3) := by decide +kernel
theorem tX12_summed_101 {d : Nat} {l0 l1 l2 : Option Value} {v1 v2 v3 : Value} {a : Nat} {m : jmM} {Q : Option Value → jmM → Prop} : AW d 217 101 [l0, l1, l2] [.ref a, v1, v2, v3] m Q ↔ (mS m a).1 = 12 ∧ AW d 217 104 [l0, l1, l2] [.int (mI m a 14), v1, v2, v3] m Q := A_getfield (f := fun m a => .int (mI m a 14)) hB_X12_summed dX12_summed_101 hO_X12_summed fF_12_157 rfl
theorem dX12_summed_104 : decode cX12_summed 104 = .ok (.iaload, 1) := by decide +kernel
theorem tX12_summed_104 {d : Nat} {l0 l1 l2 : Option Value} {v2 v3 : Value} {i : Int32} {a : Nat} {m : jmM} {Q : Option Value → jmM → Prop} : AW d 217 104 [l0, l1, l2] [.int i, .ref a, v2, v3] m Q ↔ (((mS m a).1 = 20 ∨ a = jScr) ∧ jIx i (mS m a).2) ∧ AW d 217 105 [l0, l1, l2] [.int (mI m a (jx i)), v2, v3] m Q := A_iaload hB_X12_summed dX12_summed_104
theorem dX12_summed_105 : decode cX12_summed 105 = .ok (.iastore, 1) := by decide +kernel
theorem tX12_summed_105 {d : Nat} {l0 l1 l2 : Option Value} {x i : Int32} {a : Nat} {m : jmM} {Q : Option Value → jmM → Prop} : AW d 217 105 [l0, l1, l2] [.int x, .int i, .ref a] m Q ↔ ((mS m a).1 = 20 ∧ jIx i (mS m a).2) ∧ AW d 217 106 [l0, l1, l2] [] (cI m a (jup (mI m a) (jx i) x)) Q := A_iastore hB_X12_summed dX12_summed_105
theorem dX12_summed_106 : decode cX12_summed 106 = .ok (.aload_n 0, 1) := by decide +kernel
theorem tX12_summed_106 {d : Nat} {l1 l2 : Option Value} {x : Nat} {m : jmM} {Q : Option Value → jmM → Prop} : AW d 217 106 [some (.ref x), l1, l2] [] m Q ↔ AW d 217 107 [some (.ref x), l1, l2] [.ref x] m Q := A_aload_n hB_X12_summed dX12_summed_106 rfl
theorem dX12_summed_107 : decode cX12_summed 107 = .ok (.invokevirtual 229, 3) := by decide +kernel
theorem tX12_summed_107 {d : Nat} {l0 l1 l2 : Option Value} {a : Nat} {m : jmM} {Q : Option Value → jmM → Prop} : AW d 217 107 [l0, l1, l2] [.ref a] m Q ↔ (mS m a).1 = 12 ∧ CC d 216 [.ref a] m (jK d 217 110 [l0, l1, l2] [] Q) := A_callV hB_X12_summed dX12_summed_107 hO_X12_summed fS_12_229 ⟨Nat.le_of_ble_eq_true rfl, Nat.le_of_ble_eq_true rfl⟩ rfl rfl rfl
theorem dX12_summed_110 : decode cX12_summed 110 = .ok (.ifCond .ne 5, 3) := by decide +kernel
theorem tX12_summed_110 {d : Nat} {l0 l1 l2 : Option Value} {x : Int32} {m : jmM} {Q : Option Value → jmM → Prop} : AW d 217 110 [l0, l1, l2] [.int x] m Q ↔ if x = 0 then AW d 217 113 [l0, l1, l2] [] m Q else AW d 217 115 [l0, l1, l2] [] m Q := A_if_ne hB_X12_summed dX12_summed_110 (by decide)
theorem dX12_summed_113 : decode cX12_summed 113 = .ok (.iconst 0, 1) := by decide +kernel
theorem tX12_summed_113 {d : Nat} {l0 l1 l2 : Option Value} {m : jmM} {Q : Option Value → jmM → Prop} : AW d 217 113 [l0, l1, l2] [] m Q ↔ AW d 217 114 [l0, l1, l2] [.int 0] m Q := A_iconst hB_X12_summed dX12_summed_113 (by decide)
theorem dX12_summed_114 : decode cX12_summed 114 = .ok (.ireturn, 1) := by decide +kernel
theorem tX12_summed_114 {d : Nat} {l0 l1 l2 : Option Value} {x : Int32} {m : jmM} {Q : Option Value → jmM → Prop} : AW d 217 114 [l0, l1, l2] [.int x] m Q ↔ jBool x ∧ Q (some (.int x)) m := A_zreturn hB_X12_summed dX12_summed_114 hR_X12_summed
theorem dX12_summed_115 : decode cX12_summed 115 = .ok (.aload_n 0, 1) := by decide +kernel
theorem tX12_summed_115 {d : Nat} {l1 l2 : Option Value} {x : Nat} {m : jmM} {Q : Option Value → jmM → Prop} : AW d 217 115 [some (.ref x), l1, l2] [] m Q ↔ AW d 217 116 [some (.ref x), l1, l2] [.ref x] m Q := A_aload_n hB_X12_summed dX12_summed_115 rfl
theorem dX12_summed_116 : decode cX12_summed 116 = .ok (.getfield 20, 3) := by decide +kernel
theorem tX12_summed_116 {d : Nat} {l0 l1 l2 : Option Value} {a : Nat} {m : jmM} {Q : Option Value → jmM → Prop} : AW d 217 116 [l0, l1, l2] [.ref a] m Q ↔ (mS m a).1 = 12 ∧ AW d 217 119 [l0, l1, l2] [va_rf (mR m a 4)] m Q := A_getfield (f := fun m a => va_rf (mR m a 4)) hB_X12_summed dX12_summed_116 hO_X12_summed fF_12_20 rfl
theorem dX12_summed_119 : decode cX12_summed 119 = .ok (.iload_n 2, 1) := by decide +kernel
theorem tX12_summed_119 {d : Nat} {l0 l1 : Option Value} {v0 : Value} {x : Int32} {m : jmM} {Q : Option Value → jmM → Prop} : AW d 217 119 [l0, l1, some (.int x)] [v0] m Q ↔ AW d 217 120 [l0, l1, some (.int x)] [.int x, v0] m Q := A_iload_n hB_X12_summed dX12_summed_119 rfl
theorem dX12_summed_120 : decode cX12_summed 120 = .ok (.iconst 4, 1) := by decide +kernel
theorem tX12_summed_120 {d : Nat} {l0 l1 l2 : Option Value} {v0 v1 : Value} {m : jmM} {Q : Option Value → jmM → Prop} : AW d 217 120 [l0, l1, l2] [v0, v1] m Q ↔ AW d 217 121 [l0, l1, l2] [.int 4, v0, v1] m Q := A_iconst hB_X12_summed dX12_summed_120 (by decide)
theorem dX12_summed_121 : decode cX12_summed 121 = .ok (.iadd, 1) := by decide +kernel
theorem tX12_summed_121 {d : Nat} {l0 l1 l2 : Option Value} {v2 : Value} {x y : Int32} {m : jmM} {Q : Option Value → jmM → Prop} : AW d 217 121 [l0, l1, l2] [.int y, .int x, v2] m Q ↔ AW d 217 122 [l0, l1, l2] [.int (x + y), v2] m Q := A_iadd hB_X12_summed dX12_summed_121
theorem dX12_summed_122 : decode cX12_summed 122 = .ok (.aload_n 0, 1) := by decide +kernel
theorem tX12_summed_122 {d : Nat} {l1 l2 : Option Value} {v0 v1 : Value} {x : Nat} {m : jmM} {Q : Option Value → jmM → Prop} : AW d 217 122 [some (.ref x), l1, l2] [v0, v1] m Q ↔ AW d 217 123 [some (.ref x), l1, l2] [.ref x, v0, v1] m Q := A_aload_n hB_X12_summed dX12_summed_122 rfl
theorem dX12_summed_123 : decode cX12_summed 123 = .ok (.getfield 17, 3) := by decide +kernel
theorem tX12_summed_123 {d : Nat} {l0 l1 l2 : Option Value} {v1 v2 : Value} {a : Nat} {m : jmM} {Q : Option Value → jmM → Prop} : AW d 217 123 [l0, l1, l2] [.ref a, v1, v2] m Q ↔ (mS m a).1 = 12 ∧ AW d 217 126 [l0, l1, l2] [va_rf (mR m a 3), v1, v2] m Q := A_getfield (f := fun m a => va_rf (mR m a 3)) hB_X12_summed dX12_summed_123 hO_X12_summed fF_12_17 rfl
theorem dX12_summed_126 : decode cX12_summed 126 = .ok (.aload_n 0, 1) := by decide +kernel
theorem tX12_summed_126 {d : Nat} {l1 l2 : Option Value} {v0 v1 v2 : Value} {x : Nat} {m : jmM} {Q : Option Value → jmM → Prop} : AW d 217 126 [some (.ref x), l1, l2] [v0, v1, v2] m Q ↔ AW d 217 127 [some (.ref x), l1, l2] [.ref x, v0, v1, v2] m Q := A_aload_n hB_X12_summed dX12_summed_126 rfl
theorem dX12_summed_127 : decode cX12_summed 127 = .ok (.getfield 157, 3) := by decide +kernel
theorem tX12_summed_127 {d : Nat} {l0 l1 l2 : Option Value} {v1 v2 v3 : Value} {a : Nat} {m : jmM} {Q : Option Value → jmM → Prop} : AW d 217 127 [l0, l1, l2] [.ref a, v1, v2, v3] m Q ↔ (mS m a).1 = 12 ∧ AW d 217 130 [l0, l1, l2] [.int (mI m a 14), v1, v2, v3] m Q := A_getfield (f := fun m a => .int (mI m a 14)) hB_X12_summed dX12_summed_127 hO_X12_summed fF_12_157 rfl
theorem dX12_summed_130 : decode cX12_summed 130 = .ok (.iaload, 1) := by decide +kernel
theorem tX12_summed_130 {d : Nat} {l0 l1 l2 : Option Value} {v2 v3 : Value} {i : Int32} {a : Nat} {m : jmM} {Q : Option Value → jmM → Prop} : AW d 217 130 [l0, l1, l2] [.int i, .ref a, v2, v3] m Q ↔ (((mS m a).1 = 20 ∨ a = jScr) ∧ jIx i (mS m a).2) ∧ AW d 217 131 [l0, l1, l2] [.int (mI m a (jx i)), v2, v3] m Q := A_iaload hB_X12_summed dX12_summed_130
theorem dX12_summed_131 : decode cX12_summed 131 = .ok (.iastore, 1) := by decide +kernel
theorem tX12_summed_131 {d : Nat} {l0 l1 l2 : Option Value} {x i : Int32} {a : Nat} {m : jmM} {Q : Option Value → jmM → Prop} : AW d 217 131 [l0, l1, l2] [.int x, .int i, .ref a] m Q ↔ ((mS m a).1 = 20 ∧ jIx i (mS m a).2) ∧ AW d 217 132 [l0, l1, l2] [] (cI m a (jup (mI m a) (jx i) x)) Q := A_iastore hB_X12_summed dX12_summed_131
theorem dX12_summed_132 : decode cX12_summed 132 = .ok (.aload_n 0, 1) := by decide +kernel
theorem tX12_summed_132 {d : Nat} {l1 l2 : Option Value} {x : Nat} {m : jmM} {Q : Option Value → jmM → Prop} : AW d 217 132 [some (.ref x), l1, l2] [] m Q ↔ AW d 217 133 [some (.ref x), l1, l2] [.ref x] m Q := A_aload_n hB_X12_summed dX12_summed_132 rfl
theorem dX12_summed_133 : decode cX12_summed 133 = .ok (.getfield 23, 3) := by decide +kernel
theorem tX12_summed_133 {d : Nat} {l0 l1 l2 : Option Value} {a : Nat} {m : jmM} {Q : Option Value → jmM → Prop} : AW d 217 133 [l0, l1, l2] [.ref a] m Q ↔ (mS m a).1 = 12 ∧ AW d 217 136 [l0, l1, l2] [va_rf (mR m a 5)] m Q := A_getfield (f := fun m a => va_rf (mR m a 5)) hB_X12_summed dX12_summed_133 hO_X12_summed fF_12_23 rfl
theorem dX12_summed_136 : decode cX12_summed 136 = .ok (.aload_n 0, 1) := by decide +kernel
theorem tX12_summed_136 {d : Nat} {l1 l2 : Option Value} {v0 : Value} {x : Nat} {m : jmM} {Q : Option Value → jmM → Prop} : AW d 217 136 [some (.ref x), l1, l2] [v0] m Q ↔ AW d 217 137 [some (.ref x), l1, l2] [.ref x, v0] m Q := A_aload_n hB_X12_summed dX12_summed_136 rfl
theorem dX12_summed_137 : decode cX12_summed 137 = .ok (.getfield 157, 3) := by decide +kernel
theorem tX12_summed_137 {d : Nat} {l0 l1 l2 : Option Value} {v1 : Value} {a : Nat} {m : jmM} {Q : Option Value → jmM → Prop} : AW d 217 137 [l0, l1, l2] [.ref a, v1] m Q ↔ (mS m a).1 = 12 ∧ AW d 217 140 [l0, l1, l2] [.int (mI m a 14), v1] m Q := A_getfield (f := fun m a => .int (mI m a 14)) hB_X12_summed dX12_summed_137 hO_X12_summed fF_12_157 rfl
theorem dX12_summed_140 : decode cX12_summed 140 = .ok (.dup2, 1) := by decide +kernel
theorem tX12_summed_140 {d : Nat} {l0 l1 l2 : Option Value} {x : Int32} {y : Nat} {m : jmM} {Q : Option Value → jmM → Prop} : AW d 217 140 [l0, l1, l2] [.int x, .ref y] m Q ↔ AW d 217 141 [l0, l1, l2] [.int x, .ref y, .int x, .ref y] m Q := A_dup2_ia hB_X12_summed dX12_summed_140
theorem dX12_summed_141 : decode cX12_summed 141 = .ok (.iaload, 1) := by decide +kernel
theorem tX12_summed_141 {d : Nat} {l0 l1 l2 : Option Value} {v2 v3 : Value} {i : Int32} {a : Nat} {m : jmM} {Q : Option Value → jmM → Prop} : AW d 217 141 [l0, l1, l2] [.int i, .ref a, v2, v3] m Q ↔ (((mS m a).1 = 20 ∨ a = jScr) ∧ jIx i (mS m a).2) ∧ AW d 217 142 [l0, l1, l2] [.int (mI m a (jx i)), v2, v3] m Q := A_iaload hB_X12_summed dX12_summed_141
theorem dX12_summed_142 : decode cX12_summed 142 = .ok (.iconst 1, 1) := by decide +kernel
theorem tX12_summed_142 {d : Nat} {l0 l1 l2 : Option Value} {v0 v1 v2 : Value} {m : jmM} {Q : Option Value → jmM → Prop} : AW d 217 142 [l0, l1, l2] [v0, v1, v2] m Q ↔ AW d 217 143 [l0, l1, l2] [.int 1, v0, v1, v2] m Q := A_iconst hB_X12_summed dX12_summed_142 (by decide)
theorem dX12_summed_143 : decode cX12_summed 143 = .ok (.iadd, 1) := by decide +kernel
theorem tX12_summed_143 {d : Nat} {l0 l1 l2 : Option Value} {v2 v3 : Value} {x y : Int32} {m : jmM} {Q : Option Value → jmM → Prop} : AW d 217 143 [l0, l1, l2] [.int y, .int x, v2, v3] m Q ↔ AW d 217 144 [l0, l1, l2] [.int (x + y), v2, v3] m Q := A_iadd hB_X12_summed dX12_summed_143
theorem dX12_summed_144 : decode cX12_summed 144 = .ok (.iastore, 1) := by decide +kernel
theorem tX12_summed_144 {d : Nat} {l0 l1 l2 : Option Value} {x i : Int32} {a : Nat} {m : jmM} {Q : Option Value → jmM → Prop} : AW d 217 144 [l0, l1, l2] [.int x, .int i, .ref a] m Q ↔ ((mS m a).1 = 20 ∧ jIx i (mS m a).2) ∧ AW d 217 145 [l0, l1, l2] [] (cI m a (jup (mI m a) (jx i) x)) Q := A_iastore hB_X12_summed dX12_summed_144
theorem dX12_summed_145 : decode cX12_summed 145 = .ok (.iconst 1, 1) := by decide +kernel
theorem tX12_summed_145 {d : Nat} {l0 l1 l2 : Option Value} {m : jmM} {Q : Option Value → jmM → Prop} : AW d 217 145 [l0, l1, l2] [] m Q ↔ AW d 217 146 [l0, l1, l2] [.int 1] m Q := A_iconst hB_X12_summed dX12_summed_145 (by decide)
theorem dX12_summed_146 : decode cX12_summed 146 = .ok (.ireturn, 1) := by decide +kernel
theorem tX12_summed_146 {d : Nat} {l0 l1 l2 : Option Value} {x : Int32} {m : jmM} {Q : Option Value → jmM → Prop} : AW d 217 146 [l0, l1, l2] [.int x] m Q ↔ jBool x ∧ Q (some (.int x)) m := A_zreturn hB_X12_summed dX12_summed_146 hR_X12_summed
theorem hB_X12_told : jB 218 = cX12_told := rfl
theorem hO_X12_told : jO 218 = 12 := rfl
theorem hR_X12_told : jRt 218 = (some .boolean) := rfl
theorem nX12_told (d : Nat) (x0 : Nat) (x1 : Nat) (x2 : Int32) (x3 : Int32) (m : jmM) (Q : Option Value → jmM → Prop) : CC (d + 1) 218 [.ref x0, .ref x1, .int x2, .int x3] m Q ↔ AW d 218 0 [some (.ref x0), some (.ref x1), some (.int x2), some (.int x3)] [] m Q := CC_body (Nat.le_of_ble_eq_true rfl)
theorem dX12_told_0 : decode cX12_told 0 = .ok (.aload_n 1, 1) := by decide +kernel
theorem tX12_told_0 {d : Nat} {l0 l2 l3 : Option Value} {x : Nat} {m : jmM} {Q : Option Value → jmM → Prop} : AW d 218 0 [l0, some (.ref x), l2, l3] [] m Q ↔ AW d 218 1 [l0, some (.ref x), l2, l3] [.ref x] m Q := A_aload_n hB_X12_told dX12_told_0 rfl
theorem dX12_told_1 : decode cX12_told 1 = .ok (.aload_n 0, 1) := by decide +kernel
theorem tX12_told_1 {d : Nat} {l1 l2 l3 : Option Value} {v0 : Value} {x : Nat} {m : jmM} {Q : Option Value → jmM → Prop} : AW d 218 1 [some (.ref x), l1, l2, l3] [v0] m Q ↔ AW d 218 2 [some (.ref x), l1, l2, l3] [.ref x, v0] m Q := A_aload_n hB_X12_told dX12_told_1 rfl
theorem dX12_told_2 : decode cX12_told 2 = .ok (.getfield 157, 3) := by decide +kernel
theorem tX12_told_2 {d : Nat} {l0 l1 l2 l3 : Option Value} {v1 : Value} {a : Nat} {m : jmM} {Q : Option Value → jmM → Prop} : AW d 218 2 [l0, l1, l2, l3] [.ref a, v1] m Q ↔ (mS m a).1 = 12 ∧ AW d 218 5 [l0, l1, l2, l3] [.int (mI m a 14), v1] m Q := A_getfield (f := fun m a => .int (mI m a 14)) hB_X12_told dX12_told_2 hO_X12_told fF_12_157 rfl
theorem dX12_told_5 : decode cX12_told 5 = .ok (.iaload, 1) := by decide +kernel
theorem tX12_told_5 {d : Nat} {l0 l1 l2 l3 : Option Value} {i : Int32} {a : Nat} {m : jmM} {Q : Option Value → jmM → Prop} : AW d 218 5 [l0, l1, l2, l3] [.int i, .ref a] m Q ↔ (((mS m a).1 = 20 ∨ a = jScr) ∧ jIx i (mS m a).2) ∧ AW d 218 6 [l0, l1, l2, l3] [.int (mI m a (jx i))] m Q := A_iaload hB_X12_told dX12_told_5
theorem dX12_told_6 : decode cX12_told 6 = .ok (.ifCond .lt 10, 3) := by decide +kernel
theorem tX12_told_6 {d : Nat} {l0 l1 l2 l3 : Option Value} {x : Int32} {m : jmM} {Q : Option Value → jmM → Prop} : AW d 218 6 [l0, l1, l2, l3] [.int x] m Q ↔ if x < 0 then AW d 218 16 [l0, l1, l2, l3] [] m Q else AW d 218 9 [l0, l1, l2, l3] [] m Q := A_if_lt hB_X12_told dX12_told_6 (by decide)
theorem dX12_told_9 : decode cX12_told 9 = .ok (.aload_n 0, 1) := by decide +kernel
theorem tX12_told_9 {d : Nat} {l1 l2 l3 : Option Value} {x : Nat} {m : jmM} {Q : Option Value → jmM → Prop} : AW d 218 9 [some (.ref x), l1, l2, l3] [] m Q ↔ AW d 218 10 [some (.ref x), l1, l2, l3] [.ref x] m Q := A_aload_n hB_X12_told dX12_told_9 rfl
theorem dX12_told_10 : decode cX12_told 10 = .ok (.iconst 4, 1) := by decide +kernel
theorem tX12_told_10 {d : Nat} {l0 l1 l2 l3 : Option Value} {v0 : Value} {m : jmM} {Q : Option Value → jmM → Prop} : AW d 218 10 [l0, l1, l2, l3] [v0] m Q ↔ AW d 218 11 [l0, l1, l2, l3] [.int 4, v0] m Q := A_iconst hB_X12_told dX12_told_10 (by decide)
theorem dX12_told_11 : decode cX12_told 11 = .ok (.iload_n 3, 1) := by decide +kernel
theorem tX12_told_11 {d : Nat} {l0 l1 l2 : Option Value} {v0 v1 : Value} {x : Int32} {m : jmM} {Q : Option Value → jmM → Prop} : AW d 218 11 [l0, l1, l2, some (.int x)] [v0, v1] m Q ↔ AW d 218 12 [l0, l1, l2, some (.int x)] [.int x, v0, v1] m Q := A_iload_n hB_X12_told dX12_told_11 rfl
theorem dX12_told_12 : decode cX12_told 12 = .ok (.invokevirtual 132, 3) := by decide +kernel
theorem tX12_told_12 {d : Nat} {l0 l1 l2 l3 : Option Value} {y0 y1 : Value} {a : Nat} {m : jmM} {Q : Option Value → jmM → Prop} : AW d 218 12 [l0, l1, l2, l3] [y0, y1, .ref a] m Q ↔ (mS m a).1 = 12 ∧ CC d 194 [.ref a, y1, y0] m (jK d 218 15 [l0, l1, l2, l3] [] Q) := A_callV hB_X12_told dX12_told_12 hO_X12_told fS_12_132 ⟨Nat.le_of_ble_eq_true rfl, Nat.le_of_ble_eq_true rfl⟩ rfl rfl rfl
theorem dX12_told_15 : decode cX12_told 15 = .ok (.ireturn, 1) := by decide +kernel
theorem tX12_told_15 {d : Nat} {l0 l1 l2 l3 : Option Value} {x : Int32} {m : jmM} {Q : Option Value → jmM → Prop} : AW d 218 15 [l0, l1, l2, l3] [.int x] m Q ↔ jBool x ∧ Q (some (.int x)) m := A_zreturn hB_X12_told dX12_told_15 hR_X12_told
theorem dX12_told_16 : decode cX12_told 16 = .ok (.aload_n 0, 1) := by decide +kernel
theorem tX12_told_16 {d : Nat} {l1 l2 l3 : Option Value} {x : Nat} {m : jmM} {Q : Option Value → jmM → Prop} : AW d 218 16 [some (.ref x), l1, l2, l3] [] m Q ↔ AW d 218 17 [some (.ref x), l1, l2, l3] [.ref x] m Q := A_aload_n hB_X12_told dX12_told_16 rfl
theorem dX12_told_17 : decode cX12_told 17 = .ok (.invokevirtual 126, 3) := by decide +kernel
theorem tX12_told_17 {d : Nat} {l0 l1 l2 l3 : Option Value} {a : Nat} {m : jmM} {Q : Option Value → jmM → Prop} : AW d 218 17 [l0, l1, l2, l3] [.ref a] m Q ↔ (mS m a).1 = 12 ∧ CC d 199 [.ref a] m (jK d 218 20 [l0, l1, l2, l3] [] Q) := A_callV hB_X12_told dX12_told_17 hO_X12_told fS_12_126 ⟨Nat.le_of_ble_eq_true rfl, Nat.le_of_ble_eq_true rfl⟩ rfl rfl rfl
theorem dX12_told_20 : decode cX12_told 20 = .ok (.aload_n 0, 1) := by decide +kernel
theorem tX12_told_20 {d : Nat} {l1 l2 l3 : Option Value} {x : Nat} {m : jmM} {Q : Option Value → jmM → Prop} : AW d 218 20 [some (.ref x), l1, l2, l3] [] m Q ↔ AW d 218 21 [some (.ref x), l1, l2, l3] [.ref x] m Q := A_aload_n hB_X12_told dX12_told_20 rfl
theorem dX12_told_21 : decode cX12_told 21 = .ok (.iload_n 2, 1) := by decide +kernel
theorem tX12_told_21 {d : Nat} {l0 l1 l3 : Option Value} {v0 : Value} {x : Int32} {m : jmM} {Q : Option Value → jmM → Prop} : AW d 218 21 [l0, l1, some (.int x), l3] [v0] m Q ↔ AW d 218 22 [l0, l1, some (.int x), l3] [.int x, v0] m Q := A_iload_n hB_X12_told dX12_told_21 rfl
theorem dX12_told_22 : decode cX12_told 22 = .ok (.invokevirtual 181, 3) := by decide +kernel
theorem tX12_told_22 {d : Nat} {l0 l1 l2 l3 : Option Value} {y0 : Value} {a : Nat} {m : jmM} {Q : Option Value → jmM → Prop} : AW d 218 22 [l0, l1, l2, l3] [y0, .ref a] m Q ↔ (mS m a).1 = 12 ∧ CC d 201 [.ref a, y0] m (jK d 218 25 [l0, l1, l2, l3] [] Q) := A_callV hB_X12_told dX12_told_22 hO_X12_told fS_12_181 ⟨Nat.le_of_ble_eq_true rfl, Nat.le_of_ble_eq_true rfl⟩ rfl rfl rfl
theorem dX12_told_25 : decode cX12_told 25 = .ok (.ifCond .ne 5, 3) := by decide +kernel
theorem tX12_told_25 {d : Nat} {l0 l1 l2 l3 : Option Value} {x : Int32} {m : jmM} {Q : Option Value → jmM → Prop} : AW d 218 25 [l0, l1, l2, l3] [.int x] m Q ↔ if x = 0 then AW d 218 28 [l0, l1, l2, l3] [] m Q else AW d 218 30 [l0, l1, l2, l3] [] m Q := A_if_ne hB_X12_told dX12_told_25 (by decide)
theorem dX12_told_28 : decode cX12_told 28 = .ok (.iconst 0, 1) := by decide +kernel
theorem tX12_told_28 {d : Nat} {l0 l1 l2 l3 : Option Value} {m : jmM} {Q : Option Value → jmM → Prop} : AW d 218 28 [l0, l1, l2, l3] [] m Q ↔ AW d 218 29 [l0, l1, l2, l3] [.int 0] m Q := A_iconst hB_X12_told dX12_told_28 (by decide)
theorem dX12_told_29 : decode cX12_told 29 = .ok (.ireturn, 1) := by decide +kernel
theorem tX12_told_29 {d : Nat} {l0 l1 l2 l3 : Option Value} {x : Int32} {m : jmM} {Q : Option Value → jmM → Prop} : AW d 218 29 [l0, l1, l2, l3] [.int x] m Q ↔ jBool x ∧ Q (some (.int x)) m := A_zreturn hB_X12_told dX12_told_29 hR_X12_told
theorem dX12_told_30 : decode cX12_told 30 = .ok (.aload_n 1, 1) := by decide +kernel
theorem tX12_told_30 {d : Nat} {l0 l2 l3 : Option Value} {x : Nat} {m : jmM} {Q : Option Value → jmM → Prop} : AW d 218 30 [l0, some (.ref x), l2, l3] [] m Q ↔ AW d 218 31 [l0, some (.ref x), l2, l3] [.ref x] m Q := A_aload_n hB_X12_told dX12_told_30 rfl
theorem dX12_told_31 : decode cX12_told 31 = .ok (.aload_n 0, 1) := by decide +kernel
theorem tX12_told_31 {d : Nat} {l1 l2 l3 : Option Value} {v0 : Value} {x : Nat} {m : jmM} {Q : Option Value → jmM → Prop} : AW d 218 31 [some (.ref x), l1, l2, l3] [v0] m Q ↔ AW d 218 32 [some (.ref x), l1, l2, l3] [.ref x, v0] m Q := A_aload_n hB_X12_told dX12_told_31 rfl
theorem dX12_told_32 : decode cX12_told 32 = .ok (.getfield 157, 3) := by decide +kernel
theorem tX12_told_32 {d : Nat} {l0 l1 l2 l3 : Option Value} {v1 : Value} {a : Nat} {m : jmM} {Q : Option Value → jmM → Prop} : AW d 218 32 [l0, l1, l2, l3] [.ref a, v1] m Q ↔ (mS m a).1 = 12 ∧ AW d 218 35 [l0, l1, l2, l3] [.int (mI m a 14), v1] m Q := A_getfield (f := fun m a => .int (mI m a 14)) hB_X12_told dX12_told_32 hO_X12_told fF_12_157 rfl
theorem dX12_told_35 : decode cX12_told 35 = .ok (.aload_n 0, 1) := by decide +kernel
theorem tX12_told_35 {d : Nat} {l1 l2 l3 : Option Value} {v0 v1 : Value} {x : Nat} {m : jmM} {Q : Option Value → jmM → Prop} : AW d 218 35 [some (.ref x), l1, l2, l3] [v0, v1] m Q ↔ AW d 218 36 [some (.ref x), l1, l2, l3] [.ref x, v0, v1] m Q := A_aload_n hB_X12_told dX12_told_35 rfl
theorem dX12_told_36 : decode cX12_told 36 = .ok (.getfield 136, 3) := by decide +kernel
theorem tX12_told_36 {d : Nat} {l0 l1 l2 l3 : Option Value} {v1 v2 : Value} {a : Nat} {m : jmM} {Q : Option Value → jmM → Prop} : AW d 218 36 [l0, l1, l2, l3] [.ref a, v1, v2] m Q ↔ (mS m a).1 = 12 ∧ AW d 218 39 [l0, l1, l2, l3] [.int (mI m a 13), v1, v2] m Q := A_getfield (f := fun m a => .int (mI m a 13)) hB_X12_told dX12_told_36 hO_X12_told fF_12_136 rfl
theorem dX12_told_39 : decode cX12_told 39 = .ok (.iastore, 1) := by decide +kernel
theorem tX12_told_39 {d : Nat} {l0 l1 l2 l3 : Option Value} {x i : Int32} {a : Nat} {m : jmM} {Q : Option Value → jmM → Prop} : AW d 218 39 [l0, l1, l2, l3] [.int x, .int i, .ref a] m Q ↔ ((mS m a).1 = 20 ∧ jIx i (mS m a).2) ∧ AW d 218 40 [l0, l1, l2, l3] [] (cI m a (jup (mI m a) (jx i) x)) Q := A_iastore hB_X12_told dX12_told_39
theorem dX12_told_40 : decode cX12_told 40 = .ok (.iconst 1, 1) := by decide +kernel
theorem tX12_told_40 {d : Nat} {l0 l1 l2 l3 : Option Value} {m : jmM} {Q : Option Value → jmM → Prop} : AW d 218 40 [l0, l1, l2, l3] [] m Q ↔ AW d 218 41 [l0, l1, l2, l3] [.int 1] m Q := A_iconst hB_X12_told dX12_told_40 (by decide)
theorem dX12_told_41 : decode cX12_told 41 = .ok (.ireturn, 1) := by decide +kernel
theorem tX12_told_41 {d : Nat} {l0 l1 l2 l3 : Option Value} {x : Int32} {m : jmM} {Q : Option Value → jmM → Prop} : AW d 218 41 [l0, l1, l2, l3] [.int x] m Q ↔ jBool x ∧ Q (some (.int x)) m := A_zreturn hB_X12_told dX12_told_41 hR_X12_told
theorem hB_X12_clauseHere : jB 219 = cX12_clauseHere := rfl
theorem hO_X12_clauseHere : jO 219 = 12 := rfl
theorem hR_X12_clauseHere : jRt 219 = (some .boolean) := rfl
theorem nX12_clauseHere (d : Nat) (x0 : Nat) (m : jmM) (Q : Option Value → jmM → Prop) : CC (d + 1) 219 [.ref x0] m Q ↔ AW d 219 0 [some (.ref x0), none, none, none, none] [] m Q := CC_body (Nat.le_of_ble_eq_true rfl)
theorem dX12_clauseHere_0 : decode cX12_clauseHere 0 = .ok (.aload_n 0, 1) := by decide +kernel
theorem tX12_clauseHere_0 {d : Nat} {l1 l2 l3 l4 : Option Value} {x : Nat} {m : jmM} {Q : Option Value → jmM → Prop} : AW d 219 0 [some (.ref x), l1, l2, l3, l4] [] m Q ↔ AW d 219 1 [some (.ref x), l1, l2, l3, l4] [.ref x] m Q := A_aload_n hB_X12_clauseHere dX12_clauseHere_0 rfl
theorem dX12_clauseHere_1 : decode cX12_clauseHere 1 = .ok (.invokevirtual 114, 3) := by decide +kernel
theorem tX12_clauseHere_1 {d : Nat} {l0 l1 l2 l3 l4 : Option Value} {a : Nat} {m : jmM} {Q : Option Value → jmM → Prop} : AW d 219 1 [l0, l1, l2, l3, l4] [.ref a] m Q ↔ (mS m a).1 = 12 ∧ CC d 195 [.ref a] m (jK d 219 4 [l0, l1, l2, l3, l4] [] Q) := A_callV hB_X12_clauseHere dX12_clauseHere_1 hO_X12_clauseHere fS_12_114 ⟨Nat.le_of_ble_eq_true rfl, Nat.le_of_ble_eq_true rfl⟩ rfl rfl rfl
theorem dX12_clauseHere_4 : decode cX12_clauseHere 4 = .ok (.pop, 1) := by decide +kernel
theorem tX12_clauseHere_4 {d : Nat} {l0 l1 l2 l3 l4 : Option Value} {x : Int32} {m : jmM} {Q : Option Value → jmM → Prop} : AW d 219 4 [l0, l1, l2, l3, l4] [.int x] m Q ↔ AW d 219 5 [l0, l1, l2, l3, l4] [] m Q := A_pop_i hB_X12_clauseHere dX12_clauseHere_4
theorem dX12_clauseHere_5 : decode cX12_clauseHere 5 = .ok (.aload_n 0, 1) := by decide +kernel
theorem tX12_clauseHere_5 {d : Nat} {l1 l2 l3 l4 : Option Value} {x : Nat} {m : jmM} {Q : Option Value → jmM → Prop} : AW d 219 5 [some (.ref x), l1, l2, l3, l4] [] m Q ↔ AW d 219 6 [some (.ref x), l1, l2, l3, l4] [.ref x] m Q := A_aload_n hB_X12_clauseHere dX12_clauseHere_5 rfl
theorem dX12_clauseHere_6 : decode cX12_clauseHere 6 = .ok (.getfield 111, 3) := by decide +kernel
theorem tX12_clauseHere_6 {d : Nat} {l0 l1 l2 l3 l4 : Option Value} {a : Nat} {m : jmM} {Q : Option Value → jmM → Prop} : AW d 219 6 [l0, l1, l2, l3, l4] [.ref a] m Q ↔ (mS m a).1 = 12 ∧ AW d 219 9 [l0, l1, l2, l3, l4] [.int (mI m a 11)] m Q := A_getfield (f := fun m a => .int (mI m a 11)) hB_X12_clauseHere dX12_clauseHere_6 hO_X12_clauseHere fF_12_111 rfl
theorem dX12_clauseHere_9 : decode cX12_clauseHere 9 = .ok (.istore_n 1, 1) := by decide +kernel
theorem tX12_clauseHere_9 {d : Nat} {l0 l1 l2 l3 l4 : Option Value} {x : Int32} {m : jmM} {Q : Option Value → jmM → Prop} : AW d 219 9 [l0, l1, l2, l3, l4] [.int x] m Q ↔ AW d 219 10 [jc1 l0, some (.int x), l2, l3, l4] [] m Q := A_istore_n hB_X12_clauseHere dX12_clauseHere_9 (Nat.le_of_ble_eq_true rfl) rfl
theorem dX12_clauseHere_10 : decode cX12_clauseHere 10 = .ok (.aload_n 0, 1) := by decide +kernel
theorem tX12_clauseHere_10 {d : Nat} {l1 l2 l3 l4 : Option Value} {x : Nat} {m : jmM} {Q : Option Value → jmM → Prop} : AW d 219 10 [some (.ref x), l1, l2, l3, l4] [] m Q ↔ AW d 219 11 [some (.ref x), l1, l2, l3, l4] [.ref x] m Q := A_aload_n hB_X12_clauseHere dX12_clauseHere_10 rfl
theorem dX12_clauseHere_11 : decode cX12_clauseHere 11 = .ok (.getfield 157, 3) := by decide +kernel
theorem tX12_clauseHere_11 {d : Nat} {l0 l1 l2 l3 l4 : Option Value} {a : Nat} {m : jmM} {Q : Option Value → jmM → Prop} : AW d 219 11 [l0, l1, l2, l3, l4] [.ref a] m Q ↔ (mS m a).1 = 12 ∧ AW d 219 14 [l0, l1, l2, l3, l4] [.int (mI m a 14)] m Q := A_getfield (f := fun m a => .int (mI m a 14)) hB_X12_clauseHere dX12_clauseHere_11 hO_X12_clauseHere fF_12_157 rfl
theorem dX12_clauseHere_14 : decode cX12_clauseHere 14 = .ok (.iconst 4, 1) := by decide +kernel
theorem tX12_clauseHere_14 {d : Nat} {l0 l1 l2 l3 l4 : Option Value} {v0 : Value} {m : jmM} {Q : Option Value → jmM → Prop} : AW d 219 14 [l0, l1, l2, l3, l4] [v0] m Q ↔ AW d 219 15 [l0, l1, l2, l3, l4] [.int 4, v0] m Q := A_iconst hB_X12_clauseHere dX12_clauseHere_14 (by decide)
theorem dX12_clauseHere_15 : decode cX12_clauseHere 15 = .ok (.if_icmp .ge 7, 3) := by decide +kernel
theorem tX12_clauseHere_15 {d : Nat} {l0 l1 l2 l3 l4 : Option Value} {x y : Int32} {m : jmM} {Q : Option Value → jmM → Prop} : AW d 219 15 [l0, l1, l2, l3, l4] [.int y, .int x] m Q ↔ if y ≤ x then AW d 219 22 [l0, l1, l2, l3, l4] [] m Q else AW d 219 18 [l0, l1, l2, l3, l4] [] m Q := A_icmp_ge hB_X12_clauseHere dX12_clauseHere_15 (by decide)
theorem dX12_clauseHere_18 : decode cX12_clauseHere 18 = .ok (.iconst 1, 1) := by decide +kernel
theorem tX12_clauseHere_18 {d : Nat} {l0 l1 l2 l3 l4 : Option Value} {m : jmM} {Q : Option Value → jmM → Prop} : AW d 219 18 [l0, l1, l2, l3, l4] [] m Q ↔ AW d 219 19 [l0, l1, l2, l3, l4] [.int 1] m Q := A_iconst hB_X12_clauseHere dX12_clauseHere_18 (by decide)
theorem dX12_clauseHere_19 : decode cX12_clauseHere 19 = .ok (.goto 4, 3) := by decide +kernel
theorem tX12_clauseHere_19 {d : Nat} {l0 l1 l2 l3 l4 : Option Value} {v0 : Value} {m : jmM} {Q : Option Value → jmM → Prop} : AW d 219 19 [l0, l1, l2, l3, l4] [v0] m Q ↔ AW d 219 23 [l0, l1, l2, l3, l4] [v0] m Q := A_goto hB_X12_clauseHere dX12_clauseHere_19 (by decide)
theorem dX12_clauseHere_22 : decode cX12_clauseHere 22 = .ok (.iconst 0, 1) := by decide +kernel
theorem tX12_clauseHere_22 {d : Nat} {l0 l1 l2 l3 l4 : Option Value} {m : jmM} {Q : Option Value → jmM → Prop} : AW d 219 22 [l0, l1, l2, l3, l4] [] m Q ↔ AW d 219 23 [l0, l1, l2, l3, l4] [.int 0] m Q := A_iconst hB_X12_clauseHere dX12_clauseHere_22 (by decide)
theorem dX12_clauseHere_23 : decode cX12_clauseHere 23 = .ok (.istore_n 2, 1) := by decide +kernel
theorem tX12_clauseHere_23 {d : Nat} {l0 l1 l2 l3 l4 : Option Value} {x : Int32} {m : jmM} {Q : Option Value → jmM → Prop} : AW d 219 23 [l0, l1, l2, l3, l4] [.int x] m Q ↔ AW d 219 24 [l0, jc1 l1, some (.int x), l3, l4] [] m Q := A_istore_n hB_X12_clauseHere dX12_clauseHere_23 (Nat.le_of_ble_eq_true rfl) rfl
theorem dX12_clauseHere_24 : decode cX12_clauseHere 24 = .ok (.iload_n 2, 1) := by decide +kernel
theorem tX12_clauseHere_24 {d : Nat} {l0 l1 l3 l4 : Option Value} {x : Int32} {m : jmM} {Q : Option Value → jmM → Prop} : AW d 219 24 [l0, l1, some (.int x), l3, l4] [] m Q ↔ AW d 219 25 [l0, l1, some (.int x), l3, l4] [.int x] m Q := A_iload_n hB_X12_clauseHere dX12_clauseHere_24 rfl
theorem dX12_clauseHere_25 : decode cX12_clauseHere 25 = .ok (.ifCond .eq 51, 3) := by decide +kernel
theorem tX12_clauseHere_25 {d : Nat} {l0 l1 l2 l3 l4 : Option Value} {x : Int32} {m : jmM} {Q : Option Value → jmM → Prop} : AW d 219 25 [l0, l1, l2, l3, l4] [.int x] m Q ↔ if x = 0 then AW d 219 76 [l0, l1, l2, l3, l4] [] m Q else AW d 219 28 [l0, l1, l2, l3, l4] [] m Q := A_if_eq hB_X12_clauseHere dX12_clauseHere_25 (by decide)
theorem dX12_clauseHere_28 : decode cX12_clauseHere 28 = .ok (.aload_n 0, 1) := by decide +kernel
theorem tX12_clauseHere_28 {d : Nat} {l1 l2 l3 l4 : Option Value} {x : Nat} {m : jmM} {Q : Option Value → jmM → Prop} : AW d 219 28 [some (.ref x), l1, l2, l3, l4] [] m Q ↔ AW d 219 29 [some (.ref x), l1, l2, l3, l4] [.ref x] m Q := A_aload_n hB_X12_clauseHere dX12_clauseHere_28 rfl
theorem dX12_clauseHere_29 : decode cX12_clauseHere 29 = .ok (.ldc2_w 155, 3) := by decide +kernel
theorem tX12_clauseHere_29 {d : Nat} {l0 l1 l2 l3 l4 : Option Value} {v0 : Value} {m : jmM} {Q : Option Value → jmM → Prop} : AW d 219 29 [l0, l1, l2, l3, l4] [v0] m Q ↔ AW d 219 32 [l0, l1, l2, l3, l4] [.long 2003395685, v0] m Q := A_ldc2_w hB_X12_clauseHere dX12_clauseHere_29 hO_X12_clauseHere fL2_12_155
theorem dX12_clauseHere_32 : decode cX12_clauseHere 32 = .ok (.invokevirtual 122, 3) := by decide +kernel
theorem tX12_clauseHere_32 {d : Nat} {l0 l1 l2 l3 l4 : Option Value} {y0 : Value} {a : Nat} {m : jmM} {Q : Option Value → jmM → Prop} : AW d 219 32 [l0, l1, l2, l3, l4] [y0, .ref a] m Q ↔ (mS m a).1 = 12 ∧ CC d 198 [.ref a, y0] m (jK d 219 35 [l0, l1, l2, l3, l4] [] Q) := A_callV hB_X12_clauseHere dX12_clauseHere_32 hO_X12_clauseHere fS_12_122 ⟨Nat.le_of_ble_eq_true rfl, Nat.le_of_ble_eq_true rfl⟩ rfl rfl rfl
theorem dX12_clauseHere_35 : decode cX12_clauseHere 35 = .ok (.ifCond .ne 33, 3) := by decide +kernel
theorem tX12_clauseHere_35 {d : Nat} {l0 l1 l2 l3 l4 : Option Value} {x : Int32} {m : jmM} {Q : Option Value → jmM → Prop} : AW d 219 35 [l0, l1, l2, l3, l4] [.int x] m Q ↔ if x = 0 then AW d 219 38 [l0, l1, l2, l3, l4] [] m Q else AW d 219 68 [l0, l1, l2, l3, l4] [] m Q := A_if_ne hB_X12_clauseHere dX12_clauseHere_35 (by decide)
theorem dX12_clauseHere_38 : decode cX12_clauseHere 38 = .ok (.aload_n 0, 1) := by decide +kernel
theorem tX12_clauseHere_38 {d : Nat} {l1 l2 l3 l4 : Option Value} {x : Nat} {m : jmM} {Q : Option Value → jmM → Prop} : AW d 219 38 [some (.ref x), l1, l2, l3, l4] [] m Q ↔ AW d 219 39 [some (.ref x), l1, l2, l3, l4] [.ref x] m Q := A_aload_n hB_X12_clauseHere dX12_clauseHere_38 rfl
theorem dX12_clauseHere_39 : decode cX12_clauseHere 39 = .ok (.ldc2_w 232, 3) := by decide +kernel
theorem tX12_clauseHere_39 {d : Nat} {l0 l1 l2 l3 l4 : Option Value} {v0 : Value} {m : jmM} {Q : Option Value → jmM → Prop} : AW d 219 39 [l0, l1, l2, l3, l4] [v0] m Q ↔ AW d 219 42 [l0, l1, l2, l3, l4] [.long 495924638316, v0] m Q := A_ldc2_w hB_X12_clauseHere dX12_clauseHere_39 hO_X12_clauseHere fL2_12_232
theorem dX12_clauseHere_42 : decode cX12_clauseHere 42 = .ok (.invokevirtual 122, 3) := by decide +kernel
theorem tX12_clauseHere_42 {d : Nat} {l0 l1 l2 l3 l4 : Option Value} {y0 : Value} {a : Nat} {m : jmM} {Q : Option Value → jmM → Prop} : AW d 219 42 [l0, l1, l2, l3, l4] [y0, .ref a] m Q ↔ (mS m a).1 = 12 ∧ CC d 198 [.ref a, y0] m (jK d 219 45 [l0, l1, l2, l3, l4] [] Q) := A_callV hB_X12_clauseHere dX12_clauseHere_42 hO_X12_clauseHere fS_12_122 ⟨Nat.le_of_ble_eq_true rfl, Nat.le_of_ble_eq_true rfl⟩ rfl rfl rfl
theorem dX12_clauseHere_45 : decode cX12_clauseHere 45 = .ok (.ifCond .ne 23, 3) := by decide +kernel
theorem tX12_clauseHere_45 {d : Nat} {l0 l1 l2 l3 l4 : Option Value} {x : Int32} {m : jmM} {Q : Option Value → jmM → Prop} : AW d 219 45 [l0, l1, l2, l3, l4] [.int x] m Q ↔ if x = 0 then AW d 219 48 [l0, l1, l2, l3, l4] [] m Q else AW d 219 68 [l0, l1, l2, l3, l4] [] m Q := A_if_ne hB_X12_clauseHere dX12_clauseHere_45 (by decide)
theorem dX12_clauseHere_48 : decode cX12_clauseHere 48 = .ok (.aload_n 0, 1) := by decide +kernel
theorem tX12_clauseHere_48 {d : Nat} {l1 l2 l3 l4 : Option Value} {x : Nat} {m : jmM} {Q : Option Value → jmM → Prop} : AW d 219 48 [some (.ref x), l1, l2, l3, l4] [] m Q ↔ AW d 219 49 [some (.ref x), l1, l2, l3, l4] [.ref x] m Q := A_aload_n hB_X12_clauseHere dX12_clauseHere_48 rfl
theorem dX12_clauseHere_49 : decode cX12_clauseHere 49 = .ok (.ldc2_w 234, 3) := by decide +kernel
theorem tX12_clauseHere_49 {d : Nat} {l0 l1 l2 l3 l4 : Option Value} {v0 : Value} {m : jmM} {Q : Option Value → jmM → Prop} : AW d 219 49 [l0, l1, l2, l3, l4] [v0] m Q ↔ AW d 219 52 [l0, l1, l2, l3, l4] [.long 1818326117, v0] m Q := A_ldc2_w hB_X12_clauseHere dX12_clauseHere_49 hO_X12_clauseHere fL2_12_234
theorem dX12_clauseHere_52 : decode cX12_clauseHere 52 = .ok (.invokevirtual 122, 3) := by decide +kernel
theorem tX12_clauseHere_52 {d : Nat} {l0 l1 l2 l3 l4 : Option Value} {y0 : Value} {a : Nat} {m : jmM} {Q : Option Value → jmM → Prop} : AW d 219 52 [l0, l1, l2, l3, l4] [y0, .ref a] m Q ↔ (mS m a).1 = 12 ∧ CC d 198 [.ref a, y0] m (jK d 219 55 [l0, l1, l2, l3, l4] [] Q) := A_callV hB_X12_clauseHere dX12_clauseHere_52 hO_X12_clauseHere fS_12_122 ⟨Nat.le_of_ble_eq_true rfl, Nat.le_of_ble_eq_true rfl⟩ rfl rfl rfl
theorem dX12_clauseHere_55 : decode cX12_clauseHere 55 = .ok (.ifCond .ne 13, 3) := by decide +kernel
theorem tX12_clauseHere_55 {d : Nat} {l0 l1 l2 l3 l4 : Option Value} {x : Int32} {m : jmM} {Q : Option Value → jmM → Prop} : AW d 219 55 [l0, l1, l2, l3, l4] [.int x] m Q ↔ if x = 0 then AW d 219 58 [l0, l1, l2, l3, l4] [] m Q else AW d 219 68 [l0, l1, l2, l3, l4] [] m Q := A_if_ne hB_X12_clauseHere dX12_clauseHere_55 (by decide)
theorem dX12_clauseHere_58 : decode cX12_clauseHere 58 = .ok (.aload_n 0, 1) := by decide +kernel
theorem tX12_clauseHere_58 {d : Nat} {l1 l2 l3 l4 : Option Value} {x : Nat} {m : jmM} {Q : Option Value → jmM → Prop} : AW d 219 58 [some (.ref x), l1, l2, l3, l4] [] m Q ↔ AW d 219 59 [some (.ref x), l1, l2, l3, l4] [.ref x] m Q := A_aload_n hB_X12_clauseHere dX12_clauseHere_58 rfl
theorem dX12_clauseHere_59 : decode cX12_clauseHere 59 = .ok (.ldc2_w 236, 3) := by decide +kernel
theorem tX12_clauseHere_59 {d : Nat} {l0 l1 l2 l3 l4 : Option Value} {v0 : Value} {m : jmM} {Q : Option Value → jmM → Prop} : AW d 219 59 [l0, l1, l2, l3, l4] [v0] m Q ↔ AW d 219 62 [l0, l1, l2, l3, l4] [.long 444150998387, v0] m Q := A_ldc2_w hB_X12_clauseHere dX12_clauseHere_59 hO_X12_clauseHere fL2_12_236
theorem dX12_clauseHere_62 : decode cX12_clauseHere 62 = .ok (.invokevirtual 122, 3) := by decide +kernel
theorem tX12_clauseHere_62 {d : Nat} {l0 l1 l2 l3 l4 : Option Value} {y0 : Value} {a : Nat} {m : jmM} {Q : Option Value → jmM → Prop} : AW d 219 62 [l0, l1, l2, l3, l4] [y0, .ref a] m Q ↔ (mS m a).1 = 12 ∧ CC d 198 [.ref a, y0] m (jK d 219 65 [l0, l1, l2, l3, l4] [] Q) := A_callV hB_X12_clauseHere dX12_clauseHere_62 hO_X12_clauseHere fS_12_122 ⟨Nat.le_of_ble_eq_true rfl, Nat.le_of_ble_eq_true rfl⟩ rfl rfl rfl
theorem dX12_clauseHere_65 : decode cX12_clauseHere 65 = .ok (.ifCond .eq 7, 3) := by decide +kernel
theorem tX12_clauseHere_65 {d : Nat} {l0 l1 l2 l3 l4 : Option Value} {x : Int32} {m : jmM} {Q : Option Value → jmM → Prop} : AW d 219 65 [l0, l1, l2, l3, l4] [.int x] m Q ↔ if x = 0 then AW d 219 72 [l0, l1, l2, l3, l4] [] m Q else AW d 219 68 [l0, l1, l2, l3, l4] [] m Q := A_if_eq hB_X12_clauseHere dX12_clauseHere_65 (by decide)
theorem dX12_clauseHere_68 : decode cX12_clauseHere 68 = .ok (.iconst 1, 1) := by decide +kernel
theorem tX12_clauseHere_68 {d : Nat} {l0 l1 l2 l3 l4 : Option Value} {m : jmM} {Q : Option Value → jmM → Prop} : AW d 219 68 [l0, l1, l2, l3, l4] [] m Q ↔ AW d 219 69 [l0, l1, l2, l3, l4] [.int 1] m Q := A_iconst hB_X12_clauseHere dX12_clauseHere_68 (by decide)
theorem dX12_clauseHere_69 : decode cX12_clauseHere 69 = .ok (.goto 32, 3) := by decide +kernel
theorem tX12_clauseHere_69 {d : Nat} {l0 l1 l2 l3 l4 : Option Value} {v0 : Value} {m : jmM} {Q : Option Value → jmM → Prop} : AW d 219 69 [l0, l1, l2, l3, l4] [v0] m Q ↔ AW d 219 101 [l0, l1, l2, l3, l4] [v0] m Q := A_goto hB_X12_clauseHere dX12_clauseHere_69 (by decide)
theorem dX12_clauseHere_72 : decode cX12_clauseHere 72 = .ok (.iconst 0, 1) := by decide +kernel
theorem tX12_clauseHere_72 {d : Nat} {l0 l1 l2 l3 l4 : Option Value} {m : jmM} {Q : Option Value → jmM → Prop} : AW d 219 72 [l0, l1, l2, l3, l4] [] m Q ↔ AW d 219 73 [l0, l1, l2, l3, l4] [.int 0] m Q := A_iconst hB_X12_clauseHere dX12_clauseHere_72 (by decide)
theorem dX12_clauseHere_73 : decode cX12_clauseHere 73 = .ok (.goto 28, 3) := by decide +kernel
theorem tX12_clauseHere_73 {d : Nat} {l0 l1 l2 l3 l4 : Option Value} {v0 : Value} {m : jmM} {Q : Option Value → jmM → Prop} : AW d 219 73 [l0, l1, l2, l3, l4] [v0] m Q ↔ AW d 219 101 [l0, l1, l2, l3, l4] [v0] m Q := A_goto hB_X12_clauseHere dX12_clauseHere_73 (by decide)
theorem dX12_clauseHere_76 : decode cX12_clauseHere 76 = .ok (.aload_n 0, 1) := by decide +kernel
theorem tX12_clauseHere_76 {d : Nat} {l1 l2 l3 l4 : Option Value} {x : Nat} {m : jmM} {Q : Option Value → jmM → Prop} : AW d 219 76 [some (.ref x), l1, l2, l3, l4] [] m Q ↔ AW d 219 77 [some (.ref x), l1, l2, l3, l4] [.ref x] m Q := A_aload_n hB_X12_clauseHere dX12_clauseHere_76 rfl
theorem dX12_clauseHere_77 : decode cX12_clauseHere 77 = .ok (.ldc2_w 149, 3) := by decide +kernel
theorem tX12_clauseHere_77 {d : Nat} {l0 l1 l2 l3 l4 : Option Value} {v0 : Value} {m : jmM} {Q : Option Value → jmM → Prop} : AW d 219 77 [l0, l1, l2, l3, l4] [v0] m Q ↔ AW d 219 80 [l0, l1, l2, l3, l4] [.long 1886743660, v0] m Q := A_ldc2_w hB_X12_clauseHere dX12_clauseHere_77 hO_X12_clauseHere fL2_12_149
theorem dX12_clauseHere_80 : decode cX12_clauseHere 80 = .ok (.invokevirtual 122, 3) := by decide +kernel
theorem tX12_clauseHere_80 {d : Nat} {l0 l1 l2 l3 l4 : Option Value} {y0 : Value} {a : Nat} {m : jmM} {Q : Option Value → jmM → Prop} : AW d 219 80 [l0, l1, l2, l3, l4] [y0, .ref a] m Q ↔ (mS m a).1 = 12 ∧ CC d 198 [.ref a, y0] m (jK d 219 83 [l0, l1, l2, l3, l4] [] Q) := A_callV hB_X12_clauseHere dX12_clauseHere_80 hO_X12_clauseHere fS_12_122 ⟨Nat.le_of_ble_eq_true rfl, Nat.le_of_ble_eq_true rfl⟩ rfl rfl rfl
theorem dX12_clauseHere_83 : decode cX12_clauseHere 83 = .ok (.ifCond .ne 13, 3) := by decide +kernel
theorem tX12_clauseHere_83 {d : Nat} {l0 l1 l2 l3 l4 : Option Value} {x : Int32} {m : jmM} {Q : Option Value → jmM → Prop} : AW d 219 83 [l0, l1, l2, l3, l4] [.int x] m Q ↔ if x = 0 then AW d 219 86 [l0, l1, l2, l3, l4] [] m Q else AW d 219 96 [l0, l1, l2, l3, l4] [] m Q := A_if_ne hB_X12_clauseHere dX12_clauseHere_83 (by decide)
theorem dX12_clauseHere_86 : decode cX12_clauseHere 86 = .ok (.aload_n 0, 1) := by decide +kernel
theorem tX12_clauseHere_86 {d : Nat} {l1 l2 l3 l4 : Option Value} {x : Nat} {m : jmM} {Q : Option Value → jmM → Prop} : AW d 219 86 [some (.ref x), l1, l2, l3, l4] [] m Q ↔ AW d 219 87 [some (.ref x), l1, l2, l3, l4] [.ref x] m Q := A_aload_n hB_X12_clauseHere dX12_clauseHere_86 rfl
theorem dX12_clauseHere_87 : decode cX12_clauseHere 87 = .ok (.ldc2_w 147, 3) := by decide +kernel
theorem tX12_clauseHere_87 {d : Nat} {l0 l1 l2 l3 l4 : Option Value} {v0 : Value} {m : jmM} {Q : Option Value → jmM → Prop} : AW d 219 87 [l0, l1, l2, l3, l4] [v0] m Q ↔ AW d 219 90 [l0, l1, l2, l3, l4] [.long 1751474548, v0] m Q := A_ldc2_w hB_X12_clauseHere dX12_clauseHere_87 hO_X12_clauseHere fL2_12_147
theorem dX12_clauseHere_90 : decode cX12_clauseHere 90 = .ok (.invokevirtual 122, 3) := by decide +kernel
theorem tX12_clauseHere_90 {d : Nat} {l0 l1 l2 l3 l4 : Option Value} {y0 : Value} {a : Nat} {m : jmM} {Q : Option Value → jmM → Prop} : AW d 219 90 [l0, l1, l2, l3, l4] [y0, .ref a] m Q ↔ (mS m a).1 = 12 ∧ CC d 198 [.ref a, y0] m (jK d 219 93 [l0, l1, l2, l3, l4] [] Q) := A_callV hB_X12_clauseHere dX12_clauseHere_90 hO_X12_clauseHere fS_12_122 ⟨Nat.le_of_ble_eq_true rfl, Nat.le_of_ble_eq_true rfl⟩ rfl rfl rfl
theorem dX12_clauseHere_93 : decode cX12_clauseHere 93 = .ok (.ifCond .eq 7, 3) := by decide +kernel
theorem tX12_clauseHere_93 {d : Nat} {l0 l1 l2 l3 l4 : Option Value} {x : Int32} {m : jmM} {Q : Option Value → jmM → Prop} : AW d 219 93 [l0, l1, l2, l3, l4] [.int x] m Q ↔ if x = 0 then AW d 219 100 [l0, l1, l2, l3, l4] [] m Q else AW d 219 96 [l0, l1, l2, l3, l4] [] m Q := A_if_eq hB_X12_clauseHere dX12_clauseHere_93 (by decide)
theorem dX12_clauseHere_96 : decode cX12_clauseHere 96 = .ok (.iconst 1, 1) := by decide +kernel
theorem tX12_clauseHere_96 {d : Nat} {l0 l1 l2 l3 l4 : Option Value} {m : jmM} {Q : Option Value → jmM → Prop} : AW d 219 96 [l0, l1, l2, l3, l4] [] m Q ↔ AW d 219 97 [l0, l1, l2, l3, l4] [.int 1] m Q := A_iconst hB_X12_clauseHere dX12_clauseHere_96 (by decide)
theorem dX12_clauseHere_97 : decode cX12_clauseHere 97 = .ok (.goto 4, 3) := by decide +kernel
theorem tX12_clauseHere_97 {d : Nat} {l0 l1 l2 l3 l4 : Option Value} {v0 : Value} {m : jmM} {Q : Option Value → jmM → Prop} : AW d 219 97 [l0, l1, l2, l3, l4] [v0] m Q ↔ AW d 219 101 [l0, l1, l2, l3, l4] [v0] m Q := A_goto hB_X12_clauseHere dX12_clauseHere_97 (by decide)
theorem dX12_clauseHere_100 : decode cX12_clauseHere 100 = .ok (.iconst 0, 1) := by decide +kernel
theorem tX12_clauseHere_100 {d : Nat} {l0 l1 l2 l3 l4 : Option Value} {m : jmM} {Q : Option Value → jmM → Prop} : AW d 219 100 [l0, l1, l2, l3, l4] [] m Q ↔ AW d 219 101 [l0, l1, l2, l3, l4] [.int 0] m Q := A_iconst hB_X12_clauseHere dX12_clauseHere_100 (by decide)
theorem dX12_clauseHere_101 : decode cX12_clauseHere 101 = .ok (.istore_n 3, 1) := by decide +kernel
theorem tX12_clauseHere_101 {d : Nat} {l0 l1 l2 l3 l4 : Option Value} {x : Int32} {m : jmM} {Q : Option Value → jmM → Prop} : AW d 219 101 [l0, l1, l2, l3, l4] [.int x] m Q ↔ AW d 219 102 [l0, l1, jc1 l2, some (.int x), l4] [] m Q := A_istore_n hB_X12_clauseHere dX12_clauseHere_101 (Nat.le_of_ble_eq_true rfl) rfl
theorem dX12_clauseHere_102 : decode cX12_clauseHere 102 = .ok (.iload_n 3, 1) := by decide +kernel
theorem tX12_clauseHere_102 {d : Nat} {l0 l1 l2 l4 : Option Value} {x : Int32} {m : jmM} {Q : Option Value → jmM → Prop} : AW d 219 102 [l0, l1, l2, some (.int x), l4] [] m Q ↔ AW d 219 103 [l0, l1, l2, some (.int x), l4] [.int x] m Q := A_iload_n hB_X12_clauseHere dX12_clauseHere_102 rfl
theorem dX12_clauseHere_103 : decode cX12_clauseHere 103 = .ok (.ifCond .ne 10, 3) := by decide +kernel
theorem tX12_clauseHere_103 {d : Nat} {l0 l1 l2 l3 l4 : Option Value} {x : Int32} {m : jmM} {Q : Option Value → jmM → Prop} : AW d 219 103 [l0, l1, l2, l3, l4] [.int x] m Q ↔ if x = 0 then AW d 219 106 [l0, l1, l2, l3, l4] [] m Q else AW d 219 113 [l0, l1, l2, l3, l4] [] m Q := A_if_ne hB_X12_clauseHere dX12_clauseHere_103 (by decide)
theorem dX12_clauseHere_106 : decode cX12_clauseHere 106 = .ok (.aload_n 0, 1) := by decide +kernel
theorem tX12_clauseHere_106 {d : Nat} {l1 l2 l3 l4 : Option Value} {x : Nat} {m : jmM} {Q : Option Value → jmM → Prop} : AW d 219 106 [some (.ref x), l1, l2, l3, l4] [] m Q ↔ AW d 219 107 [some (.ref x), l1, l2, l3, l4] [.ref x] m Q := A_aload_n hB_X12_clauseHere dX12_clauseHere_106 rfl
theorem dX12_clauseHere_107 : decode cX12_clauseHere 107 = .ok (.iconst 0, 1) := by decide +kernel
theorem tX12_clauseHere_107 {d : Nat} {l0 l1 l2 l3 l4 : Option Value} {v0 : Value} {m : jmM} {Q : Option Value → jmM → Prop} : AW d 219 107 [l0, l1, l2, l3, l4] [v0] m Q ↔ AW d 219 108 [l0, l1, l2, l3, l4] [.int 0, v0] m Q := A_iconst hB_X12_clauseHere dX12_clauseHere_107 (by decide)
theorem dX12_clauseHere_108 : decode cX12_clauseHere 108 = .ok (.iload_n 1, 1) := by decide +kernel
theorem tX12_clauseHere_108 {d : Nat} {l0 l2 l3 l4 : Option Value} {v0 v1 : Value} {x : Int32} {m : jmM} {Q : Option Value → jmM → Prop} : AW d 219 108 [l0, some (.int x), l2, l3, l4] [v0, v1] m Q ↔ AW d 219 109 [l0, some (.int x), l2, l3, l4] [.int x, v0, v1] m Q := A_iload_n hB_X12_clauseHere dX12_clauseHere_108 rfl
theorem dX12_clauseHere_109 : decode cX12_clauseHere 109 = .ok (.invokevirtual 132, 3) := by decide +kernel
theorem tX12_clauseHere_109 {d : Nat} {l0 l1 l2 l3 l4 : Option Value} {y0 y1 : Value} {a : Nat} {m : jmM} {Q : Option Value → jmM → Prop} : AW d 219 109 [l0, l1, l2, l3, l4] [y0, y1, .ref a] m Q ↔ (mS m a).1 = 12 ∧ CC d 194 [.ref a, y1, y0] m (jK d 219 112 [l0, l1, l2, l3, l4] [] Q) := A_callV hB_X12_clauseHere dX12_clauseHere_109 hO_X12_clauseHere fS_12_132 ⟨Nat.le_of_ble_eq_true rfl, Nat.le_of_ble_eq_true rfl⟩ rfl rfl rfl
theorem dX12_clauseHere_112 : decode cX12_clauseHere 112 = .ok (.ireturn, 1) := by decide +kernel
theorem tX12_clauseHere_112 {d : Nat} {l0 l1 l2 l3 l4 : Option Value} {x : Int32} {m : jmM} {Q : Option Value → jmM → Prop} : AW d 219 112 [l0, l1, l2, l3, l4] [.int x] m Q ↔ jBool x ∧ Q (some (.int x)) m := A_zreturn hB_X12_clauseHere dX12_clauseHere_112 hR_X12_clauseHere
theorem dX12_clauseHere_113 : decode cX12_clauseHere 113 = .ok (.aload_n 0, 1) := by decide +kernel
theorem tX12_clauseHere_113 {d : Nat} {l1 l2 l3 l4 : Option Value} {x : Nat} {m : jmM} {Q : Option Value → jmM → Prop} : AW d 219 113 [some (.ref x), l1, l2, l3, l4] [] m Q ↔ AW d 219 114 [some (.ref x), l1, l2, l3, l4] [.ref x] m Q := A_aload_n hB_X12_clauseHere dX12_clauseHere_113 rfl
theorem dX12_clauseHere_114 : decode cX12_clauseHere 114 = .ok (.getfield 238, 3) := by decide +kernel
theorem tX12_clauseHere_114 {d : Nat} {l0 l1 l2 l3 l4 : Option Value} {a : Nat} {m : jmM} {Q : Option Value → jmM → Prop} : AW d 219 114 [l0, l1, l2, l3, l4] [.ref a] m Q ↔ (mS m a).1 = 12 ∧ AW d 219 117 [l0, l1, l2, l3, l4] [.int (mI m a 19)] m Q := A_getfield (f := fun m a => .int (mI m a 19)) hB_X12_clauseHere dX12_clauseHere_114 hO_X12_clauseHere fF_12_238 rfl
theorem dX12_clauseHere_117 : decode cX12_clauseHere 117 = .ok (.bipush 12, 2) := by decide +kernel
theorem tX12_clauseHere_117 {d : Nat} {l0 l1 l2 l3 l4 : Option Value} {v0 : Value} {m : jmM} {Q : Option Value → jmM → Prop} : AW d 219 117 [l0, l1, l2, l3, l4] [v0] m Q ↔ AW d 219 119 [l0, l1, l2, l3, l4] [.int 12, v0] m Q := A_bipush hB_X12_clauseHere dX12_clauseHere_117 rfl
theorem dX12_clauseHere_119 : decode cX12_clauseHere 119 = .ok (.if_icmp .ne 10, 3) := by decide +kernel
theorem tX12_clauseHere_119 {d : Nat} {l0 l1 l2 l3 l4 : Option Value} {x y : Int32} {m : jmM} {Q : Option Value → jmM → Prop} : AW d 219 119 [l0, l1, l2, l3, l4] [.int y, .int x] m Q ↔ if x = y then AW d 219 122 [l0, l1, l2, l3, l4] [] m Q else AW d 219 129 [l0, l1, l2, l3, l4] [] m Q := A_icmp_ne hB_X12_clauseHere dX12_clauseHere_119 (by decide)
theorem dX12_clauseHere_122 : decode cX12_clauseHere 122 = .ok (.aload_n 0, 1) := by decide +kernel
theorem tX12_clauseHere_122 {d : Nat} {l1 l2 l3 l4 : Option Value} {x : Nat} {m : jmM} {Q : Option Value → jmM → Prop} : AW d 219 122 [some (.ref x), l1, l2, l3, l4] [] m Q ↔ AW d 219 123 [some (.ref x), l1, l2, l3, l4] [.ref x] m Q := A_aload_n hB_X12_clauseHere dX12_clauseHere_122 rfl
theorem dX12_clauseHere_123 : decode cX12_clauseHere 123 = .ok (.iconst 4, 1) := by decide +kernel
theorem tX12_clauseHere_123 {d : Nat} {l0 l1 l2 l3 l4 : Option Value} {v0 : Value} {m : jmM} {Q : Option Value → jmM → Prop} : AW d 219 123 [l0, l1, l2, l3, l4] [v0] m Q ↔ AW d 219 124 [l0, l1, l2, l3, l4] [.int 4, v0] m Q := A_iconst hB_X12_clauseHere dX12_clauseHere_123 (by decide)
theorem dX12_clauseHere_124 : decode cX12_clauseHere 124 = .ok (.iload_n 1, 1) := by decide +kernel
theorem tX12_clauseHere_124 {d : Nat} {l0 l2 l3 l4 : Option Value} {v0 v1 : Value} {x : Int32} {m : jmM} {Q : Option Value → jmM → Prop} : AW d 219 124 [l0, some (.int x), l2, l3, l4] [v0, v1] m Q ↔ AW d 219 125 [l0, some (.int x), l2, l3, l4] [.int x, v0, v1] m Q := A_iload_n hB_X12_clauseHere dX12_clauseHere_124 rfl
theorem dX12_clauseHere_125 : decode cX12_clauseHere 125 = .ok (.invokevirtual 132, 3) := by decide +kernel
theorem tX12_clauseHere_125 {d : Nat} {l0 l1 l2 l3 l4 : Option Value} {y0 y1 : Value} {a : Nat} {m : jmM} {Q : Option Value → jmM → Prop} : AW d 219 125 [l0, l1, l2, l3, l4] [y0, y1, .ref a] m Q ↔ (mS m a).1 = 12 ∧ CC d 194 [.ref a, y1, y0] m (jK d 219 128 [l0, l1, l2, l3, l4] [] Q) := A_callV hB_X12_clauseHere dX12_clauseHere_125 hO_X12_clauseHere fS_12_132 ⟨Nat.le_of_ble_eq_true rfl, Nat.le_of_ble_eq_true rfl⟩ rfl rfl rfl
theorem dX12_clauseHere_128 : decode cX12_clauseHere 128 = .ok (.ireturn, 1) := by decide +kernel
theorem tX12_clauseHere_128 {d : Nat} {l0 l1 l2 l3 l4 : Option Value} {x : Int32} {m : jmM} {Q : Option Value → jmM → Prop} : AW d 219 128 [l0, l1, l2, l3, l4] [.int x] m Q ↔ jBool x ∧ Q (some (.int x)) m := A_zreturn hB_X12_clauseHere dX12_clauseHere_128 hR_X12_clauseHere
theorem dX12_clauseHere_129 : decode cX12_clauseHere 129 = .ok (.aload_n 0, 1) := by decide +kernel
theorem tX12_clauseHere_129 {d : Nat} {l1 l2 l3 l4 : Option Value} {x : Nat} {m : jmM} {Q : Option Value → jmM → Prop} : AW d 219 129 [some (.ref x), l1, l2, l3, l4] [] m Q ↔ AW d 219 130 [some (.ref x), l1, l2, l3, l4] [.ref x] m Q := A_aload_n hB_X12_clauseHere dX12_clauseHere_129 rfl
theorem dX12_clauseHere_130 : decode cX12_clauseHere 130 = .ok (.dup, 1) := by decide +kernel
theorem tX12_clauseHere_130 {d : Nat} {l0 l1 l2 l3 l4 : Option Value} {x : Nat} {m : jmM} {Q : Option Value → jmM → Prop} : AW d 219 130 [l0, l1, l2, l3, l4] [.ref x] m Q ↔ AW d 219 131 [l0, l1, l2, l3, l4] [.ref x, .ref x] m Q := A_dup_a hB_X12_clauseHere dX12_clauseHere_130
theorem dX12_clauseHere_131 : decode cX12_clauseHere 131 = .ok (.getfield 238, 3) := by decide +kernel
theorem tX12_clauseHere_131 {d : Nat} {l0 l1 l2 l3 l4 : Option Value} {v1 : Value} {a : Nat} {m : jmM} {Q : Option Value → jmM → Prop} : AW d 219 131 [l0, l1, l2, l3, l4] [.ref a, v1] m Q ↔ (mS m a).1 = 12 ∧ AW d 219 134 [l0, l1, l2, l3, l4] [.int (mI m a 19), v1] m Q := A_getfield (f := fun m a => .int (mI m a 19)) hB_X12_clauseHere dX12_clauseHere_131 hO_X12_clauseHere fF_12_238 rfl
theorem dX12_clauseHere_134 : decode cX12_clauseHere 134 = .ok (.iconst 1, 1) := by decide +kernel
theorem tX12_clauseHere_134 {d : Nat} {l0 l1 l2 l3 l4 : Option Value} {v0 v1 : Value} {m : jmM} {Q : Option Value → jmM → Prop} : AW d 219 134 [l0, l1, l2, l3, l4] [v0, v1] m Q ↔ AW d 219 135 [l0, l1, l2, l3, l4] [.int 1, v0, v1] m Q := A_iconst hB_X12_clauseHere dX12_clauseHere_134 (by decide)
theorem dX12_clauseHere_135 : decode cX12_clauseHere 135 = .ok (.iadd, 1) := by decide +kernel
theorem tX12_clauseHere_135 {d : Nat} {l0 l1 l2 l3 l4 : Option Value} {v2 : Value} {x y : Int32} {m : jmM} {Q : Option Value → jmM → Prop} : AW d 219 135 [l0, l1, l2, l3, l4] [.int y, .int x, v2] m Q ↔ AW d 219 136 [l0, l1, l2, l3, l4] [.int (x + y), v2] m Q := A_iadd hB_X12_clauseHere dX12_clauseHere_135
theorem dX12_clauseHere_136 : decode cX12_clauseHere 136 = .ok (.putfield 238, 3) := by decide +kernel
theorem tX12_clauseHere_136 {d : Nat} {l0 l1 l2 l3 l4 : Option Value} {x : Int32} {a : Nat} {m : jmM} {Q : Option Value → jmM → Prop} : AW d 219 136 [l0, l1, l2, l3, l4] [.int x, .ref a] m Q ↔ (mS m a).1 = 12 ∧ AW d 219 139 [l0, l1, l2, l3, l4] [] (cI m a (jup (mI m a) 19 x)) Q := A_putI hB_X12_clauseHere dX12_clauseHere_136 hO_X12_clauseHere fF_12_238 rfl (fun h => Bool.noConfusion h)
theorem dX12_clauseHere_139 : decode cX12_clauseHere 139 = .ok (.aload_n 0, 1) := by decide +kernel
theorem tX12_clauseHere_139 {d : Nat} {l1 l2 l3 l4 : Option Value} {x : Nat} {m : jmM} {Q : Option Value → jmM → Prop} : AW d 219 139 [some (.ref x), l1, l2, l3, l4] [] m Q ↔ AW d 219 140 [some (.ref x), l1, l2, l3, l4] [.ref x] m Q := A_aload_n hB_X12_clauseHere dX12_clauseHere_139 rfl
theorem dX12_clauseHere_140 : decode cX12_clauseHere 140 = .ok (.iconst 0, 1) := by decide +kernel
theorem tX12_clauseHere_140 {d : Nat} {l0 l1 l2 l3 l4 : Option Value} {v0 : Value} {m : jmM} {Q : Option Value → jmM → Prop} : AW d 219 140 [l0, l1, l2, l3, l4] [v0] m Q ↔ AW d 219 141 [l0, l1, l2, l3, l4] [.int 0, v0] m Q := A_iconst hB_X12_clauseHere dX12_clauseHere_140 (by decide)
theorem dX12_clauseHere_141 : decode cX12_clauseHere 141 = .ok (.putfield 166, 3) := by decide +kernel
theorem tX12_clauseHere_141 {d : Nat} {l0 l1 l2 l3 l4 : Option Value} {x : Int32} {a : Nat} {m : jmM} {Q : Option Value → jmM → Prop} : AW d 219 141 [l0, l1, l2, l3, l4] [.int x, .ref a] m Q ↔ (mS m a).1 = 12 ∧ AW d 219 144 [l0, l1, l2, l3, l4] [] (cI m a (jup (mI m a) 18 x)) Q := A_putI hB_X12_clauseHere dX12_clauseHere_141 hO_X12_clauseHere fF_12_166 rfl (fun h => Bool.noConfusion h)
theorem dX12_clauseHere_144 : decode cX12_clauseHere 144 = .ok (.aload_n 0, 1) := by decide +kernel
theorem tX12_clauseHere_144 {d : Nat} {l1 l2 l3 l4 : Option Value} {x : Nat} {m : jmM} {Q : Option Value → jmM → Prop} : AW d 219 144 [some (.ref x), l1, l2, l3, l4] [] m Q ↔ AW d 219 145 [some (.ref x), l1, l2, l3, l4] [.ref x] m Q := A_aload_n hB_X12_clauseHere dX12_clauseHere_144 rfl
theorem dX12_clauseHere_145 : decode cX12_clauseHere 145 = .ok (.iconst 0, 1) := by decide +kernel
theorem tX12_clauseHere_145 {d : Nat} {l0 l1 l2 l3 l4 : Option Value} {v0 : Value} {m : jmM} {Q : Option Value → jmM → Prop} : AW d 219 145 [l0, l1, l2, l3, l4] [v0] m Q ↔ AW d 219 146 [l0, l1, l2, l3, l4] [.int 0, v0] m Q := A_iconst hB_X12_clauseHere dX12_clauseHere_145 (by decide)
theorem dX12_clauseHere_146 : decode cX12_clauseHere 146 = .ok (.putfield 163, 3) := by decide +kernel
theorem tX12_clauseHere_146 {d : Nat} {l0 l1 l2 l3 l4 : Option Value} {x : Int32} {a : Nat} {m : jmM} {Q : Option Value → jmM → Prop} : AW d 219 146 [l0, l1, l2, l3, l4] [.int x, .ref a] m Q ↔ (mS m a).1 = 12 ∧ AW d 219 149 [l0, l1, l2, l3, l4] [] (cI m a (jup (mI m a) 16 x)) Q := A_putI hB_X12_clauseHere dX12_clauseHere_146 hO_X12_clauseHere fF_12_163 rfl (fun h => Bool.noConfusion h)
theorem dX12_clauseHere_149 : decode cX12_clauseHere 149 = .ok (.aload_n 0, 1) := by decide +kernel
theorem tX12_clauseHere_149 {d : Nat} {l1 l2 l3 l4 : Option Value} {x : Nat} {m : jmM} {Q : Option Value → jmM → Prop} : AW d 219 149 [some (.ref x), l1, l2, l3, l4] [] m Q ↔ AW d 219 150 [some (.ref x), l1, l2, l3, l4] [.ref x] m Q := A_aload_n hB_X12_clauseHere dX12_clauseHere_149 rfl
theorem dX12_clauseHere_150 : decode cX12_clauseHere 150 = .ok (.ldc2_w 232, 3) := by decide +kernel
theorem tX12_clauseHere_150 {d : Nat} {l0 l1 l2 l3 l4 : Option Value} {v0 : Value} {m : jmM} {Q : Option Value → jmM → Prop} : AW d 219 150 [l0, l1, l2, l3, l4] [v0] m Q ↔ AW d 219 153 [l0, l1, l2, l3, l4] [.long 495924638316, v0] m Q := A_ldc2_w hB_X12_clauseHere dX12_clauseHere_150 hO_X12_clauseHere fL2_12_232
theorem dX12_clauseHere_153 : decode cX12_clauseHere 153 = .ok (.invokevirtual 122, 3) := by decide +kernel
theorem tX12_clauseHere_153 {d : Nat} {l0 l1 l2 l3 l4 : Option Value} {y0 : Value} {a : Nat} {m : jmM} {Q : Option Value → jmM → Prop} : AW d 219 153 [l0, l1, l2, l3, l4] [y0, .ref a] m Q ↔ (mS m a).1 = 12 ∧ CC d 198 [.ref a, y0] m (jK d 219 156 [l0, l1, l2, l3, l4] [] Q) := A_callV hB_X12_clauseHere dX12_clauseHere_153 hO_X12_clauseHere fS_12_122 ⟨Nat.le_of_ble_eq_true rfl, Nat.le_of_ble_eq_true rfl⟩ rfl rfl rfl
theorem dX12_clauseHere_156 : decode cX12_clauseHere 156 = .ok (.ifCond .eq 15, 3) := by decide +kernel
theorem tX12_clauseHere_156 {d : Nat} {l0 l1 l2 l3 l4 : Option Value} {x : Int32} {m : jmM} {Q : Option Value → jmM → Prop} : AW d 219 156 [l0, l1, l2, l3, l4] [.int x] m Q ↔ if x = 0 then AW d 219 171 [l0, l1, l2, l3, l4] [] m Q else AW d 219 159 [l0, l1, l2, l3, l4] [] m Q := A_if_eq hB_X12_clauseHere dX12_clauseHere_156 (by decide)
theorem dX12_clauseHere_159 : decode cX12_clauseHere 159 = .ok (.aload_n 0, 1) := by decide +kernel
theorem tX12_clauseHere_159 {d : Nat} {l1 l2 l3 l4 : Option Value} {x : Nat} {m : jmM} {Q : Option Value → jmM → Prop} : AW d 219 159 [some (.ref x), l1, l2, l3, l4] [] m Q ↔ AW d 219 160 [some (.ref x), l1, l2, l3, l4] [.ref x] m Q := A_aload_n hB_X12_clauseHere dX12_clauseHere_159 rfl
theorem dX12_clauseHere_160 : decode cX12_clauseHere 160 = .ok (.aload_n 0, 1) := by decide +kernel
theorem tX12_clauseHere_160 {d : Nat} {l1 l2 l3 l4 : Option Value} {v0 : Value} {x : Nat} {m : jmM} {Q : Option Value → jmM → Prop} : AW d 219 160 [some (.ref x), l1, l2, l3, l4] [v0] m Q ↔ AW d 219 161 [some (.ref x), l1, l2, l3, l4] [.ref x, v0] m Q := A_aload_n hB_X12_clauseHere dX12_clauseHere_160 rfl
theorem dX12_clauseHere_161 : decode cX12_clauseHere 161 = .ok (.getfield 26, 3) := by decide +kernel
theorem tX12_clauseHere_161 {d : Nat} {l0 l1 l2 l3 l4 : Option Value} {v1 : Value} {a : Nat} {m : jmM} {Q : Option Value → jmM → Prop} : AW d 219 161 [l0, l1, l2, l3, l4] [.ref a, v1] m Q ↔ (mS m a).1 = 12 ∧ AW d 219 164 [l0, l1, l2, l3, l4] [va_rf (mR m a 6), v1] m Q := A_getfield (f := fun m a => va_rf (mR m a 6)) hB_X12_clauseHere dX12_clauseHere_161 hO_X12_clauseHere fF_12_26 rfl
theorem dX12_clauseHere_164 : decode cX12_clauseHere 164 = .ok (.bipush 99, 2) := by decide +kernel
theorem tX12_clauseHere_164 {d : Nat} {l0 l1 l2 l3 l4 : Option Value} {v0 v1 : Value} {m : jmM} {Q : Option Value → jmM → Prop} : AW d 219 164 [l0, l1, l2, l3, l4] [v0, v1] m Q ↔ AW d 219 166 [l0, l1, l2, l3, l4] [.int 99, v0, v1] m Q := A_bipush hB_X12_clauseHere dX12_clauseHere_164 rfl
theorem dX12_clauseHere_166 : decode cX12_clauseHere 166 = .ok (.iload_n 1, 1) := by decide +kernel
theorem tX12_clauseHere_166 {d : Nat} {l0 l2 l3 l4 : Option Value} {v0 v1 v2 : Value} {x : Int32} {m : jmM} {Q : Option Value → jmM → Prop} : AW d 219 166 [l0, some (.int x), l2, l3, l4] [v0, v1, v2] m Q ↔ AW d 219 167 [l0, some (.int x), l2, l3, l4] [.int x, v0, v1, v2] m Q := A_iload_n hB_X12_clauseHere dX12_clauseHere_166 rfl
theorem dX12_clauseHere_167 : decode cX12_clauseHere 167 = .ok (.invokevirtual 241, 3) := by decide +kernel
theorem tX12_clauseHere_167 {d : Nat} {l0 l1 l2 l3 l4 : Option Value} {y0 y1 y2 : Value} {a : Nat} {m : jmM} {Q : Option Value → jmM → Prop} : AW d 219 167 [l0, l1, l2, l3, l4] [y0, y1, y2, .ref a] m Q ↔ (mS m a).1 = 12 ∧ CC d 218 [.ref a, y2, y1, y0] m (jK d 219 170 [l0, l1, l2, l3, l4] [] Q) := A_callV hB_X12_clauseHere dX12_clauseHere_167 hO_X12_clauseHere fS_12_241 ⟨Nat.le_of_ble_eq_true rfl, Nat.le_of_ble_eq_true rfl⟩ rfl rfl rfl
theorem dX12_clauseHere_170 : decode cX12_clauseHere 170 = .ok (.ireturn, 1) := by decide +kernel
theorem tX12_clauseHere_170 {d : Nat} {l0 l1 l2 l3 l4 : Option Value} {x : Int32} {m : jmM} {Q : Option Value → jmM → Prop} : AW d 219 170 [l0, l1, l2, l3, l4] [.int x] m Q ↔ jBool x ∧ Q (some (.int x)) m := A_zreturn hB_X12_clauseHere dX12_clauseHere_170 hR_X12_clauseHere
theorem dX12_clauseHere_171 : decode cX12_clauseHere 171 = .ok (.aload_n 0, 1) := by decide +kernel
theorem tX12_clauseHere_171 {d : Nat} {l1 l2 l3 l4 : Option Value} {x : Nat} {m : jmM} {Q : Option Value → jmM → Prop} : AW d 219 171 [some (.ref x), l1, l2, l3, l4] [] m Q ↔ AW d 219 172 [some (.ref x), l1, l2, l3, l4] [.ref x] m Q := A_aload_n hB_X12_clauseHere dX12_clauseHere_171 rfl
theorem dX12_clauseHere_172 : decode cX12_clauseHere 172 = .ok (.ldc2_w 234, 3) := by decide +kernel
theorem tX12_clauseHere_172 {d : Nat} {l0 l1 l2 l3 l4 : Option Value} {v0 : Value} {m : jmM} {Q : Option Value → jmM → Prop} : AW d 219 172 [l0, l1, l2, l3, l4] [v0] m Q ↔ AW d 219 175 [l0, l1, l2, l3, l4] [.long 1818326117, v0] m Q := A_ldc2_w hB_X12_clauseHere dX12_clauseHere_172 hO_X12_clauseHere fL2_12_234
theorem dX12_clauseHere_175 : decode cX12_clauseHere 175 = .ok (.invokevirtual 122, 3) := by decide +kernel
theorem tX12_clauseHere_175 {d : Nat} {l0 l1 l2 l3 l4 : Option Value} {y0 : Value} {a : Nat} {m : jmM} {Q : Option Value → jmM → Prop} : AW d 219 175 [l0, l1, l2, l3, l4] [y0, .ref a] m Q ↔ (mS m a).1 = 12 ∧ CC d 198 [.ref a, y0] m (jK d 219 178 [l0, l1, l2, l3, l4] [] Q) := A_callV hB_X12_clauseHere dX12_clauseHere_175 hO_X12_clauseHere fS_12_122 ⟨Nat.le_of_ble_eq_true rfl, Nat.le_of_ble_eq_true rfl⟩ rfl rfl rfl
theorem dX12_clauseHere_178 : decode cX12_clauseHere 178 = .ok (.ifCond .eq 15, 3) := by decide +kernel
theorem tX12_clauseHere_178 {d : Nat} {l0 l1 l2 l3 l4 : Option Value} {x : Int32} {m : jmM} {Q : Option Value → jmM → Prop} : AW d 219 178 [l0, l1, l2, l3, l4] [.int x] m Q ↔ if x = 0 then AW d 219 193 [l0, l1, l2, l3, l4] [] m Q else AW d 219 181 [l0, l1, l2, l3, l4] [] m Q := A_if_eq hB_X12_clauseHere dX12_clauseHere_178 (by decide)
theorem dX12_clauseHere_181 : decode cX12_clauseHere 181 = .ok (.aload_n 0, 1) := by decide +kernel
theorem tX12_clauseHere_181 {d : Nat} {l1 l2 l3 l4 : Option Value} {x : Nat} {m : jmM} {Q : Option Value → jmM → Prop} : AW d 219 181 [some (.ref x), l1, l2, l3, l4] [] m Q ↔ AW d 219 182 [some (.ref x), l1, l2, l3, l4] [.ref x] m Q := A_aload_n hB_X12_clauseHere dX12_clauseHere_181 rfl
theorem dX12_clauseHere_182 : decode cX12_clauseHere 182 = .ok (.aload_n 0, 1) := by decide +kernel
theorem tX12_clauseHere_182 {d : Nat} {l1 l2 l3 l4 : Option Value} {v0 : Value} {x : Nat} {m : jmM} {Q : Option Value → jmM → Prop} : AW d 219 182 [some (.ref x), l1, l2, l3, l4] [v0] m Q ↔ AW d 219 183 [some (.ref x), l1, l2, l3, l4] [.ref x, v0] m Q := A_aload_n hB_X12_clauseHere dX12_clauseHere_182 rfl
theorem dX12_clauseHere_183 : decode cX12_clauseHere 183 = .ok (.getfield 29, 3) := by decide +kernel
theorem tX12_clauseHere_183 {d : Nat} {l0 l1 l2 l3 l4 : Option Value} {v1 : Value} {a : Nat} {m : jmM} {Q : Option Value → jmM → Prop} : AW d 219 183 [l0, l1, l2, l3, l4] [.ref a, v1] m Q ↔ (mS m a).1 = 12 ∧ AW d 219 186 [l0, l1, l2, l3, l4] [va_rf (mR m a 7), v1] m Q := A_getfield (f := fun m a => va_rf (mR m a 7)) hB_X12_clauseHere dX12_clauseHere_183 hO_X12_clauseHere fF_12_29 rfl
theorem dX12_clauseHere_186 : decode cX12_clauseHere 186 = .ok (.bipush 9, 2) := by decide +kernel
theorem tX12_clauseHere_186 {d : Nat} {l0 l1 l2 l3 l4 : Option Value} {v0 v1 : Value} {m : jmM} {Q : Option Value → jmM → Prop} : AW d 219 186 [l0, l1, l2, l3, l4] [v0, v1] m Q ↔ AW d 219 188 [l0, l1, l2, l3, l4] [.int 9, v0, v1] m Q := A_bipush hB_X12_clauseHere dX12_clauseHere_186 rfl
theorem dX12_clauseHere_188 : decode cX12_clauseHere 188 = .ok (.iload_n 1, 1) := by decide +kernel
theorem tX12_clauseHere_188 {d : Nat} {l0 l2 l3 l4 : Option Value} {v0 v1 v2 : Value} {x : Int32} {m : jmM} {Q : Option Value → jmM → Prop} : AW d 219 188 [l0, some (.int x), l2, l3, l4] [v0, v1, v2] m Q ↔ AW d 219 189 [l0, some (.int x), l2, l3, l4] [.int x, v0, v1, v2] m Q := A_iload_n hB_X12_clauseHere dX12_clauseHere_188 rfl
theorem dX12_clauseHere_189 : decode cX12_clauseHere 189 = .ok (.invokevirtual 241, 3) := by decide +kernel
theorem tX12_clauseHere_189 {d : Nat} {l0 l1 l2 l3 l4 : Option Value} {y0 y1 y2 : Value} {a : Nat} {m : jmM} {Q : Option Value → jmM → Prop} : AW d 219 189 [l0, l1, l2, l3, l4] [y0, y1, y2, .ref a] m Q ↔ (mS m a).1 = 12 ∧ CC d 218 [.ref a, y2, y1, y0] m (jK d 219 192 [l0, l1, l2, l3, l4] [] Q) := A_callV hB_X12_clauseHere dX12_clauseHere_189 hO_X12_clauseHere fS_12_241 ⟨Nat.le_of_ble_eq_true rfl, Nat.le_of_ble_eq_true rfl⟩ rfl rfl rfl
theorem dX12_clauseHere_192 : decode cX12_clauseHere 192 = .ok (.ireturn, 1) := by decide +kernel
theorem tX12_clauseHere_192 {d : Nat} {l0 l1 l2 l3 l4 : Option Value} {x : Int32} {m : jmM} {Q : Option Value → jmM → Prop} : AW d 219 192 [l0, l1, l2, l3, l4] [.int x] m Q ↔ jBool x ∧ Q (some (.int x)) m := A_zreturn hB_X12_clauseHere dX12_clauseHere_192 hR_X12_clauseHere
theorem dX12_clauseHere_193 : decode cX12_clauseHere 193 = .ok (.aload_n 0, 1) := by decide +kernel
theorem tX12_clauseHere_193 {d : Nat} {l1 l2 l3 l4 : Option Value} {x : Nat} {m : jmM} {Q : Option Value → jmM → Prop} : AW d 219 193 [some (.ref x), l1, l2, l3, l4] [] m Q ↔ AW d 219 194 [some (.ref x), l1, l2, l3, l4] [.ref x] m Q := A_aload_n hB_X12_clauseHere dX12_clauseHere_193 rfl
theorem dX12_clauseHere_194 : decode cX12_clauseHere 194 = .ok (.ldc2_w 236, 3) := by decide +kernel
theorem tX12_clauseHere_194 {d : Nat} {l0 l1 l2 l3 l4 : Option Value} {v0 : Value} {m : jmM} {Q : Option Value → jmM → Prop} : AW d 219 194 [l0, l1, l2, l3, l4] [v0] m Q ↔ AW d 219 197 [l0, l1, l2, l3, l4] [.long 444150998387, v0] m Q := A_ldc2_w hB_X12_clauseHere dX12_clauseHere_194 hO_X12_clauseHere fL2_12_236
theorem dX12_clauseHere_197 : decode cX12_clauseHere 197 = .ok (.invokevirtual 122, 3) := by decide +kernel
theorem tX12_clauseHere_197 {d : Nat} {l0 l1 l2 l3 l4 : Option Value} {y0 : Value} {a : Nat} {m : jmM} {Q : Option Value → jmM → Prop} : AW d 219 197 [l0, l1, l2, l3, l4] [y0, .ref a] m Q ↔ (mS m a).1 = 12 ∧ CC d 198 [.ref a, y0] m (jK d 219 200 [l0, l1, l2, l3, l4] [] Q) := A_callV hB_X12_clauseHere dX12_clauseHere_197 hO_X12_clauseHere fS_12_122 ⟨Nat.le_of_ble_eq_true rfl, Nat.le_of_ble_eq_true rfl⟩ rfl rfl rfl
theorem dX12_clauseHere_200 : decode cX12_clauseHere 200 = .ok (.ifCond .eq 16, 3) := by decide +kernel
theorem tX12_clauseHere_200 {d : Nat} {l0 l1 l2 l3 l4 : Option Value} {x : Int32} {m : jmM} {Q : Option Value → jmM → Prop} : AW d 219 200 [l0, l1, l2, l3, l4] [.int x] m Q ↔ if x = 0 then AW d 219 216 [l0, l1, l2, l3, l4] [] m Q else AW d 219 203 [l0, l1, l2, l3, l4] [] m Q := A_if_eq hB_X12_clauseHere dX12_clauseHere_200 (by decide)
theorem dX12_clauseHere_203 : decode cX12_clauseHere 203 = .ok (.aload_n 0, 1) := by decide +kernel
theorem tX12_clauseHere_203 {d : Nat} {l1 l2 l3 l4 : Option Value} {x : Nat} {m : jmM} {Q : Option Value → jmM → Prop} : AW d 219 203 [some (.ref x), l1, l2, l3, l4] [] m Q ↔ AW d 219 204 [some (.ref x), l1, l2, l3, l4] [.ref x] m Q := A_aload_n hB_X12_clauseHere dX12_clauseHere_203 rfl
theorem dX12_clauseHere_204 : decode cX12_clauseHere 204 = .ok (.aload_n 0, 1) := by decide +kernel
theorem tX12_clauseHere_204 {d : Nat} {l1 l2 l3 l4 : Option Value} {v0 : Value} {x : Nat} {m : jmM} {Q : Option Value → jmM → Prop} : AW d 219 204 [some (.ref x), l1, l2, l3, l4] [v0] m Q ↔ AW d 219 205 [some (.ref x), l1, l2, l3, l4] [.ref x, v0] m Q := A_aload_n hB_X12_clauseHere dX12_clauseHere_204 rfl
theorem dX12_clauseHere_205 : decode cX12_clauseHere 205 = .ok (.getfield 32, 3) := by decide +kernel
theorem tX12_clauseHere_205 {d : Nat} {l0 l1 l2 l3 l4 : Option Value} {v1 : Value} {a : Nat} {m : jmM} {Q : Option Value → jmM → Prop} : AW d 219 205 [l0, l1, l2, l3, l4] [.ref a, v1] m Q ↔ (mS m a).1 = 12 ∧ AW d 219 208 [l0, l1, l2, l3, l4] [va_rf (mR m a 8), v1] m Q := A_getfield (f := fun m a => va_rf (mR m a 8)) hB_X12_clauseHere dX12_clauseHere_205 hO_X12_clauseHere fF_12_32 rfl
theorem dX12_clauseHere_208 : decode cX12_clauseHere 208 = .ok (.sipush 9999, 3) := by decide +kernel
theorem tX12_clauseHere_208 {d : Nat} {l0 l1 l2 l3 l4 : Option Value} {v0 v1 : Value} {m : jmM} {Q : Option Value → jmM → Prop} : AW d 219 208 [l0, l1, l2, l3, l4] [v0, v1] m Q ↔ AW d 219 211 [l0, l1, l2, l3, l4] [.int 9999, v0, v1] m Q := A_sipush hB_X12_clauseHere dX12_clauseHere_208 rfl
theorem dX12_clauseHere_211 : decode cX12_clauseHere 211 = .ok (.iload_n 1, 1) := by decide +kernel
theorem tX12_clauseHere_211 {d : Nat} {l0 l2 l3 l4 : Option Value} {v0 v1 v2 : Value} {x : Int32} {m : jmM} {Q : Option Value → jmM → Prop} : AW d 219 211 [l0, some (.int x), l2, l3, l4] [v0, v1, v2] m Q ↔ AW d 219 212 [l0, some (.int x), l2, l3, l4] [.int x, v0, v1, v2] m Q := A_iload_n hB_X12_clauseHere dX12_clauseHere_211 rfl
theorem dX12_clauseHere_212 : decode cX12_clauseHere 212 = .ok (.invokevirtual 241, 3) := by decide +kernel
theorem tX12_clauseHere_212 {d : Nat} {l0 l1 l2 l3 l4 : Option Value} {y0 y1 y2 : Value} {a : Nat} {m : jmM} {Q : Option Value → jmM → Prop} : AW d 219 212 [l0, l1, l2, l3, l4] [y0, y1, y2, .ref a] m Q ↔ (mS m a).1 = 12 ∧ CC d 218 [.ref a, y2, y1, y0] m (jK d 219 215 [l0, l1, l2, l3, l4] [] Q) := A_callV hB_X12_clauseHere dX12_clauseHere_212 hO_X12_clauseHere fS_12_241 ⟨Nat.le_of_ble_eq_true rfl, Nat.le_of_ble_eq_true rfl⟩ rfl rfl rfl
theorem dX12_clauseHere_215 : decode cX12_clauseHere 215 = .ok (.ireturn, 1) := by decide +kernel
theorem tX12_clauseHere_215 {d : Nat} {l0 l1 l2 l3 l4 : Option Value} {x : Int32} {m : jmM} {Q : Option Value → jmM → Prop} : AW d 219 215 [l0, l1, l2, l3, l4] [.int x] m Q ↔ jBool x ∧ Q (some (.int x)) m := A_zreturn hB_X12_clauseHere dX12_clauseHere_215 hR_X12_clauseHere
theorem dX12_clauseHere_216 : decode cX12_clauseHere 216 = .ok (.aload_n 0, 1) := by decide +kernel
theorem tX12_clauseHere_216 {d : Nat} {l1 l2 l3 l4 : Option Value} {x : Nat} {m : jmM} {Q : Option Value → jmM → Prop} : AW d 219 216 [some (.ref x), l1, l2, l3, l4] [] m Q ↔ AW d 219 217 [some (.ref x), l1, l2, l3, l4] [.ref x] m Q := A_aload_n hB_X12_clauseHere dX12_clauseHere_216 rfl
theorem dX12_clauseHere_217 : decode cX12_clauseHere 217 = .ok (.ldc2_w 155, 3) := by decide +kernel
theorem tX12_clauseHere_217 {d : Nat} {l0 l1 l2 l3 l4 : Option Value} {v0 : Value} {m : jmM} {Q : Option Value → jmM → Prop} : AW d 219 217 [l0, l1, l2, l3, l4] [v0] m Q ↔ AW d 219 220 [l0, l1, l2, l3, l4] [.long 2003395685, v0] m Q := A_ldc2_w hB_X12_clauseHere dX12_clauseHere_217 hO_X12_clauseHere fL2_12_155
theorem dX12_clauseHere_220 : decode cX12_clauseHere 220 = .ok (.invokevirtual 122, 3) := by decide +kernel
theorem tX12_clauseHere_220 {d : Nat} {l0 l1 l2 l3 l4 : Option Value} {y0 : Value} {a : Nat} {m : jmM} {Q : Option Value → jmM → Prop} : AW d 219 220 [l0, l1, l2, l3, l4] [y0, .ref a] m Q ↔ (mS m a).1 = 12 ∧ CC d 198 [.ref a, y0] m (jK d 219 223 [l0, l1, l2, l3, l4] [] Q) := A_callV hB_X12_clauseHere dX12_clauseHere_220 hO_X12_clauseHere fS_12_122 ⟨Nat.le_of_ble_eq_true rfl, Nat.le_of_ble_eq_true rfl⟩ rfl rfl rfl
theorem dX12_clauseHere_223 : decode cX12_clauseHere 223 = .ok (.ifCond .eq 7, 3) := by decide +kernel
theorem tX12_clauseHere_223 {d : Nat} {l0 l1 l2 l3 l4 : Option Value} {x : Int32} {m : jmM} {Q : Option Value → jmM → Prop} : AW d 219 223 [l0, l1, l2, l3, l4] [.int x] m Q ↔ if x = 0 then AW d 219 230 [l0, l1, l2, l3, l4] [] m Q else AW d 219 226 [l0, l1, l2, l3, l4] [] m Q := A_if_eq hB_X12_clauseHere dX12_clauseHere_223 (by decide)
theorem dX12_clauseHere_226 : decode cX12_clauseHere 226 = .ok (.iconst 0, 1) := by decide +kernel
theorem tX12_clauseHere_226 {d : Nat} {l0 l1 l2 l3 l4 : Option Value} {m : jmM} {Q : Option Value → jmM → Prop} : AW d 219 226 [l0, l1, l2, l3, l4] [] m Q ↔ AW d 219 227 [l0, l1, l2, l3, l4] [.int 0] m Q := A_iconst hB_X12_clauseHere dX12_clauseHere_226 (by decide)
theorem dX12_clauseHere_227 : decode cX12_clauseHere 227 = .ok (.goto 18, 3) := by decide +kernel
theorem tX12_clauseHere_227 {d : Nat} {l0 l1 l2 l3 l4 : Option Value} {v0 : Value} {m : jmM} {Q : Option Value → jmM → Prop} : AW d 219 227 [l0, l1, l2, l3, l4] [v0] m Q ↔ AW d 219 245 [l0, l1, l2, l3, l4] [v0] m Q := A_goto hB_X12_clauseHere dX12_clauseHere_227 (by decide)
theorem dX12_clauseHere_230 : decode cX12_clauseHere 230 = .ok (.aload_n 0, 1) := by decide +kernel
theorem tX12_clauseHere_230 {d : Nat} {l1 l2 l3 l4 : Option Value} {x : Nat} {m : jmM} {Q : Option Value → jmM → Prop} : AW d 219 230 [some (.ref x), l1, l2, l3, l4] [] m Q ↔ AW d 219 231 [some (.ref x), l1, l2, l3, l4] [.ref x] m Q := A_aload_n hB_X12_clauseHere dX12_clauseHere_230 rfl
theorem dX12_clauseHere_231 : decode cX12_clauseHere 231 = .ok (.ldc2_w 149, 3) := by decide +kernel
theorem tX12_clauseHere_231 {d : Nat} {l0 l1 l2 l3 l4 : Option Value} {v0 : Value} {m : jmM} {Q : Option Value → jmM → Prop} : AW d 219 231 [l0, l1, l2, l3, l4] [v0] m Q ↔ AW d 219 234 [l0, l1, l2, l3, l4] [.long 1886743660, v0] m Q := A_ldc2_w hB_X12_clauseHere dX12_clauseHere_231 hO_X12_clauseHere fL2_12_149
theorem dX12_clauseHere_234 : decode cX12_clauseHere 234 = .ok (.invokevirtual 122, 3) := by decide +kernel
theorem tX12_clauseHere_234 {d : Nat} {l0 l1 l2 l3 l4 : Option Value} {y0 : Value} {a : Nat} {m : jmM} {Q : Option Value → jmM → Prop} : AW d 219 234 [l0, l1, l2, l3, l4] [y0, .ref a] m Q ↔ (mS m a).1 = 12 ∧ CC d 198 [.ref a, y0] m (jK d 219 237 [l0, l1, l2, l3, l4] [] Q) := A_callV hB_X12_clauseHere dX12_clauseHere_234 hO_X12_clauseHere fS_12_122 ⟨Nat.le_of_ble_eq_true rfl, Nat.le_of_ble_eq_true rfl⟩ rfl rfl rfl
theorem dX12_clauseHere_237 : decode cX12_clauseHere 237 = .ok (.ifCond .eq 7, 3) := by decide +kernel
theorem tX12_clauseHere_237 {d : Nat} {l0 l1 l2 l3 l4 : Option Value} {x : Int32} {m : jmM} {Q : Option Value → jmM → Prop} : AW d 219 237 [l0, l1, l2, l3, l4] [.int x] m Q ↔ if x = 0 then AW d 219 244 [l0, l1, l2, l3, l4] [] m Q else AW d 219 240 [l0, l1, l2, l3, l4] [] m Q := A_if_eq hB_X12_clauseHere dX12_clauseHere_237 (by decide)
theorem dX12_clauseHere_240 : decode cX12_clauseHere 240 = .ok (.iconst 1, 1) := by decide +kernel
theorem tX12_clauseHere_240 {d : Nat} {l0 l1 l2 l3 l4 : Option Value} {m : jmM} {Q : Option Value → jmM → Prop} : AW d 219 240 [l0, l1, l2, l3, l4] [] m Q ↔ AW d 219 241 [l0, l1, l2, l3, l4] [.int 1] m Q := A_iconst hB_X12_clauseHere dX12_clauseHere_240 (by decide)
theorem dX12_clauseHere_241 : decode cX12_clauseHere 241 = .ok (.goto 4, 3) := by decide +kernel
theorem tX12_clauseHere_241 {d : Nat} {l0 l1 l2 l3 l4 : Option Value} {v0 : Value} {m : jmM} {Q : Option Value → jmM → Prop} : AW d 219 241 [l0, l1, l2, l3, l4] [v0] m Q ↔ AW d 219 245 [l0, l1, l2, l3, l4] [v0] m Q := A_goto hB_X12_clauseHere dX12_clauseHere_241 (by decide)
theorem dX12_clauseHere_244 : decode cX12_clauseHere 244 = .ok (.iconst 2, 1) := by decide +kernel
theorem tX12_clauseHere_244 {d : Nat} {l0 l1 l2 l3 l4 : Option Value} {m : jmM} {Q : Option Value → jmM → Prop} : AW d 219 244 [l0, l1, l2, l3, l4] [] m Q ↔ AW d 219 245 [l0, l1, l2, l3, l4] [.int 2] m Q := A_iconst hB_X12_clauseHere dX12_clauseHere_244 (by decide)
theorem dX12_clauseHere_245 : decode cX12_clauseHere 245 = .ok (.istore 4, 2) := by decide +kernel
theorem tX12_clauseHere_245 {d : Nat} {l0 l1 l2 l3 l4 : Option Value} {x : Int32} {m : jmM} {Q : Option Value → jmM → Prop} : AW d 219 245 [l0, l1, l2, l3, l4] [.int x] m Q ↔ AW d 219 247 [l0, l1, l2, jc1 l3, some (.int x)] [] m Q := A_istore hB_X12_clauseHere dX12_clauseHere_245 (Nat.le_of_ble_eq_true rfl) rfl
theorem dX12_clauseHere_247 : decode cX12_clauseHere 247 = .ok (.aload_n 0, 1) := by decide +kernel
theorem tX12_clauseHere_247 {d : Nat} {l1 l2 l3 l4 : Option Value} {x : Nat} {m : jmM} {Q : Option Value → jmM → Prop} : AW d 219 247 [some (.ref x), l1, l2, l3, l4] [] m Q ↔ AW d 219 248 [some (.ref x), l1, l2, l3, l4] [.ref x] m Q := A_aload_n hB_X12_clauseHere dX12_clauseHere_247 rfl
theorem dX12_clauseHere_248 : decode cX12_clauseHere 248 = .ok (.invokevirtual 126, 3) := by decide +kernel
theorem tX12_clauseHere_248 {d : Nat} {l0 l1 l2 l3 l4 : Option Value} {a : Nat} {m : jmM} {Q : Option Value → jmM → Prop} : AW d 219 248 [l0, l1, l2, l3, l4] [.ref a] m Q ↔ (mS m a).1 = 12 ∧ CC d 199 [.ref a] m (jK d 219 251 [l0, l1, l2, l3, l4] [] Q) := A_callV hB_X12_clauseHere dX12_clauseHere_248 hO_X12_clauseHere fS_12_126 ⟨Nat.le_of_ble_eq_true rfl, Nat.le_of_ble_eq_true rfl⟩ rfl rfl rfl
theorem dX12_clauseHere_251 : decode cX12_clauseHere 251 = .ok (.aload_n 0, 1) := by decide +kernel
theorem tX12_clauseHere_251 {d : Nat} {l1 l2 l3 l4 : Option Value} {x : Nat} {m : jmM} {Q : Option Value → jmM → Prop} : AW d 219 251 [some (.ref x), l1, l2, l3, l4] [] m Q ↔ AW d 219 252 [some (.ref x), l1, l2, l3, l4] [.ref x] m Q := A_aload_n hB_X12_clauseHere dX12_clauseHere_251 rfl
theorem dX12_clauseHere_252 : decode cX12_clauseHere 252 = .ok (.iload 4, 2) := by decide +kernel
theorem tX12_clauseHere_252 {d : Nat} {l0 l1 l2 l3 : Option Value} {v0 : Value} {x : Int32} {m : jmM} {Q : Option Value → jmM → Prop} : AW d 219 252 [l0, l1, l2, l3, some (.int x)] [v0] m Q ↔ AW d 219 254 [l0, l1, l2, l3, some (.int x)] [.int x, v0] m Q := A_iload hB_X12_clauseHere dX12_clauseHere_252 rfl
theorem dX12_clauseHere_254 : decode cX12_clauseHere 254 = .ok (.invokevirtual 245, 3) := by decide +kernel
theorem tX12_clauseHere_254 {d : Nat} {l0 l1 l2 l3 l4 : Option Value} {y0 : Value} {a : Nat} {m : jmM} {Q : Option Value → jmM → Prop} : AW d 219 254 [l0, l1, l2, l3, l4] [y0, .ref a] m Q ↔ (mS m a).1 = 12 ∧ CC d 217 [.ref a, y0] m (jK d 219 257 [l0, l1, l2, l3, l4] [] Q) := A_callV hB_X12_clauseHere dX12_clauseHere_254 hO_X12_clauseHere fS_12_245 ⟨Nat.le_of_ble_eq_true rfl, Nat.le_of_ble_eq_true rfl⟩ rfl rfl rfl
theorem dX12_clauseHere_257 : decode cX12_clauseHere 257 = .ok (.ireturn, 1) := by decide +kernel
theorem tX12_clauseHere_257 {d : Nat} {l0 l1 l2 l3 l4 : Option Value} {x : Int32} {m : jmM} {Q : Option Value → jmM → Prop} : AW d 219 257 [l0, l1, l2, l3, l4] [.int x] m Q ↔ jBool x ∧ Q (some (.int x)) m := A_zreturn hB_X12_clauseHere dX12_clauseHere_257 hR_X12_clauseHere
theorem hB_X12_reads : jB 220 = cX12_reads := rfl
theorem hO_X12_reads : jO 220 = 12 := rfl
theorem hR_X12_reads : jRt 220 = (some .int) := rfl
theorem nX12_reads (d : Nat) (x0 : Nat) (x1 : Int32) (m : jmM) (Q : Option Value → jmM → Prop) : CC (d + 1) 220 [.ref x0, .int x1] m Q ↔ AW d 220 0 [some (.ref x0), some (.int x1), none] [] m Q := CC_body (Nat.le_of_ble_eq_true rfl)
theorem dX12_reads_0 : decode cX12_reads 0 = .ok (.aload_n 0, 1) := by decide +kernel
theorem tX12_reads_0 {d : Nat} {l1 l2 : Option Value} {x : Nat} {m : jmM} {Q : Option Value → jmM → Prop} : AW d 220 0 [some (.ref x), l1, l2] [] m Q ↔ AW d 220 1 [some (.ref x), l1, l2] [.ref x] m Q := A_aload_n hB_X12_reads dX12_reads_0 rfl
theorem dX12_reads_1 : decode cX12_reads 1 = .ok (.iload_n 1, 1) := by decide +kernel
theorem tX12_reads_1 {d : Nat} {l0 l2 : Option Value} {v0 : Value} {x : Int32} {m : jmM} {Q : Option Value → jmM → Prop} : AW d 220 1 [l0, some (.int x), l2] [v0] m Q ↔ AW d 220 2 [l0, some (.int x), l2] [.int x, v0] m Q := A_iload_n hB_X12_reads dX12_reads_1 rfl
theorem dX12_reads_2 : decode cX12_reads 2 = .ok (.putfield 157, 3) := by decide +kernel
theorem tX12_reads_2 {d : Nat} {l0 l1 l2 : Option Value} {x : Int32} {a : Nat} {m : jmM} {Q : Option Value → jmM → Prop} : AW d 220 2 [l0, l1, l2] [.int x, .ref a] m Q ↔ (mS m a).1 = 12 ∧ AW d 220 5 [l0, l1, l2] [] (cI m a (jup (mI m a) 14 x)) Q := A_putI hB_X12_reads dX12_reads_2 hO_X12_reads fF_12_157 rfl (fun h => Bool.noConfusion h)
theorem dX12_reads_5 : decode cX12_reads 5 = .ok (.aload_n 0, 1) := by decide +kernel
theorem tX12_reads_5 {d : Nat} {l1 l2 : Option Value} {x : Nat} {m : jmM} {Q : Option Value → jmM → Prop} : AW d 220 5 [some (.ref x), l1, l2] [] m Q ↔ AW d 220 6 [some (.ref x), l1, l2] [.ref x] m Q := A_aload_n hB_X12_reads dX12_reads_5 rfl
theorem dX12_reads_6 : decode cX12_reads 6 = .ok (.getfield 17, 3) := by decide +kernel
theorem tX12_reads_6 {d : Nat} {l0 l1 l2 : Option Value} {a : Nat} {m : jmM} {Q : Option Value → jmM → Prop} : AW d 220 6 [l0, l1, l2] [.ref a] m Q ↔ (mS m a).1 = 12 ∧ AW d 220 9 [l0, l1, l2] [va_rf (mR m a 3)] m Q := A_getfield (f := fun m a => va_rf (mR m a 3)) hB_X12_reads dX12_reads_6 hO_X12_reads fF_12_17 rfl
theorem dX12_reads_9 : decode cX12_reads 9 = .ok (.iload_n 1, 1) := by decide +kernel
theorem tX12_reads_9 {d : Nat} {l0 l2 : Option Value} {v0 : Value} {x : Int32} {m : jmM} {Q : Option Value → jmM → Prop} : AW d 220 9 [l0, some (.int x), l2] [v0] m Q ↔ AW d 220 10 [l0, some (.int x), l2] [.int x, v0] m Q := A_iload_n hB_X12_reads dX12_reads_9 rfl
theorem dX12_reads_10 : decode cX12_reads 10 = .ok (.iconst 0, 1) := by decide +kernel
theorem tX12_reads_10 {d : Nat} {l0 l1 l2 : Option Value} {v0 v1 : Value} {m : jmM} {Q : Option Value → jmM → Prop} : AW d 220 10 [l0, l1, l2] [v0, v1] m Q ↔ AW d 220 11 [l0, l1, l2] [.int 0, v0, v1] m Q := A_iconst hB_X12_reads dX12_reads_10 (by decide)
theorem dX12_reads_11 : decode cX12_reads 11 = .ok (.iastore, 1) := by decide +kernel
theorem tX12_reads_11 {d : Nat} {l0 l1 l2 : Option Value} {x i : Int32} {a : Nat} {m : jmM} {Q : Option Value → jmM → Prop} : AW d 220 11 [l0, l1, l2] [.int x, .int i, .ref a] m Q ↔ ((mS m a).1 = 20 ∧ jIx i (mS m a).2) ∧ AW d 220 12 [l0, l1, l2] [] (cI m a (jup (mI m a) (jx i) x)) Q := A_iastore hB_X12_reads dX12_reads_11
theorem dX12_reads_12 : decode cX12_reads 12 = .ok (.aload_n 0, 1) := by decide +kernel
theorem tX12_reads_12 {d : Nat} {l1 l2 : Option Value} {x : Nat} {m : jmM} {Q : Option Value → jmM → Prop} : AW d 220 12 [some (.ref x), l1, l2] [] m Q ↔ AW d 220 13 [some (.ref x), l1, l2] [.ref x] m Q := A_aload_n hB_X12_reads dX12_reads_12 rfl
theorem dX12_reads_13 : decode cX12_reads 13 = .ok (.getfield 23, 3) := by decide +kernel
theorem tX12_reads_13 {d : Nat} {l0 l1 l2 : Option Value} {a : Nat} {m : jmM} {Q : Option Value → jmM → Prop} : AW d 220 13 [l0, l1, l2] [.ref a] m Q ↔ (mS m a).1 = 12 ∧ AW d 220 16 [l0, l1, l2] [va_rf (mR m a 5)] m Q := A_getfield (f := fun m a => va_rf (mR m a 5)) hB_X12_reads dX12_reads_13 hO_X12_reads fF_12_23 rfl
theorem dX12_reads_16 : decode cX12_reads 16 = .ok (.iload_n 1, 1) := by decide +kernel
theorem tX12_reads_16 {d : Nat} {l0 l2 : Option Value} {v0 : Value} {x : Int32} {m : jmM} {Q : Option Value → jmM → Prop} : AW d 220 16 [l0, some (.int x), l2] [v0] m Q ↔ AW d 220 17 [l0, some (.int x), l2] [.int x, v0] m Q := A_iload_n hB_X12_reads dX12_reads_16 rfl
theorem dX12_reads_17 : decode cX12_reads 17 = .ok (.iconst 0, 1) := by decide +kernel
theorem tX12_reads_17 {d : Nat} {l0 l1 l2 : Option Value} {v0 v1 : Value} {m : jmM} {Q : Option Value → jmM → Prop} : AW d 220 17 [l0, l1, l2] [v0, v1] m Q ↔ AW d 220 18 [l0, l1, l2] [.int 0, v0, v1] m Q := A_iconst hB_X12_reads dX12_reads_17 (by decide)
theorem dX12_reads_18 : decode cX12_reads 18 = .ok (.iastore, 1) := by decide +kernel
theorem tX12_reads_18 {d : Nat} {l0 l1 l2 : Option Value} {x i : Int32} {a : Nat} {m : jmM} {Q : Option Value → jmM → Prop} : AW d 220 18 [l0, l1, l2] [.int x, .int i, .ref a] m Q ↔ ((mS m a).1 = 20 ∧ jIx i (mS m a).2) ∧ AW d 220 19 [l0, l1, l2] [] (cI m a (jup (mI m a) (jx i) x)) Q := A_iastore hB_X12_reads dX12_reads_18
theorem dX12_reads_19 : decode cX12_reads 19 = .ok (.aload_n 0, 1) := by decide +kernel
theorem tX12_reads_19 {d : Nat} {l1 l2 : Option Value} {x : Nat} {m : jmM} {Q : Option Value → jmM → Prop} : AW d 220 19 [some (.ref x), l1, l2] [] m Q ↔ AW d 220 20 [some (.ref x), l1, l2] [.ref x] m Q := A_aload_n hB_X12_reads dX12_reads_19 rfl
theorem dX12_reads_20 : decode cX12_reads 20 = .ok (.iconst 0, 1) := by decide +kernel
theorem tX12_reads_20 {d : Nat} {l0 l1 l2 : Option Value} {v0 : Value} {m : jmM} {Q : Option Value → jmM → Prop} : AW d 220 20 [l0, l1, l2] [v0] m Q ↔ AW d 220 21 [l0, l1, l2] [.int 0, v0] m Q := A_iconst hB_X12_reads dX12_reads_20 (by decide)
theorem dX12_reads_21 : decode cX12_reads 21 = .ok (.putfield 238, 3) := by decide +kernel
theorem tX12_reads_21 {d : Nat} {l0 l1 l2 : Option Value} {x : Int32} {a : Nat} {m : jmM} {Q : Option Value → jmM → Prop} : AW d 220 21 [l0, l1, l2] [.int x, .ref a] m Q ↔ (mS m a).1 = 12 ∧ AW d 220 24 [l0, l1, l2] [] (cI m a (jup (mI m a) 19 x)) Q := A_putI hB_X12_reads dX12_reads_21 hO_X12_reads fF_12_238 rfl (fun h => Bool.noConfusion h)
theorem dX12_reads_24 : decode cX12_reads 24 = .ok (.aload_n 0, 1) := by decide +kernel
theorem tX12_reads_24 {d : Nat} {l1 l2 : Option Value} {x : Nat} {m : jmM} {Q : Option Value → jmM → Prop} : AW d 220 24 [some (.ref x), l1, l2] [] m Q ↔ AW d 220 25 [some (.ref x), l1, l2] [.ref x] m Q := A_aload_n hB_X12_reads dX12_reads_24 rfl
theorem dX12_reads_25 : decode cX12_reads 25 = .ok (.getfield 26, 3) := by decide +kernel
theorem tX12_reads_25 {d : Nat} {l0 l1 l2 : Option Value} {a : Nat} {m : jmM} {Q : Option Value → jmM → Prop} : AW d 220 25 [l0, l1, l2] [.ref a] m Q ↔ (mS m a).1 = 12 ∧ AW d 220 28 [l0, l1, l2] [va_rf (mR m a 6)] m Q := A_getfield (f := fun m a => va_rf (mR m a 6)) hB_X12_reads dX12_reads_25 hO_X12_reads fF_12_26 rfl
theorem dX12_reads_28 : decode cX12_reads 28 = .ok (.iload_n 1, 1) := by decide +kernel
theorem tX12_reads_28 {d : Nat} {l0 l2 : Option Value} {v0 : Value} {x : Int32} {m : jmM} {Q : Option Value → jmM → Prop} : AW d 220 28 [l0, some (.int x), l2] [v0] m Q ↔ AW d 220 29 [l0, some (.int x), l2] [.int x, v0] m Q := A_iload_n hB_X12_reads dX12_reads_28 rfl
theorem dX12_reads_29 : decode cX12_reads 29 = .ok (.iconst (-1), 1) := by decide +kernel
theorem tX12_reads_29 {d : Nat} {l0 l1 l2 : Option Value} {v0 v1 : Value} {m : jmM} {Q : Option Value → jmM → Prop} : AW d 220 29 [l0, l1, l2] [v0, v1] m Q ↔ AW d 220 30 [l0, l1, l2] [.int (-1), v0, v1] m Q := A_iconst hB_X12_reads dX12_reads_29 (by decide)
theorem dX12_reads_30 : decode cX12_reads 30 = .ok (.iastore, 1) := by decide +kernel
theorem tX12_reads_30 {d : Nat} {l0 l1 l2 : Option Value} {x i : Int32} {a : Nat} {m : jmM} {Q : Option Value → jmM → Prop} : AW d 220 30 [l0, l1, l2] [.int x, .int i, .ref a] m Q ↔ ((mS m a).1 = 20 ∧ jIx i (mS m a).2) ∧ AW d 220 31 [l0, l1, l2] [] (cI m a (jup (mI m a) (jx i) x)) Q := A_iastore hB_X12_reads dX12_reads_30
theorem dX12_reads_31 : decode cX12_reads 31 = .ok (.aload_n 0, 1) := by decide +kernel
theorem tX12_reads_31 {d : Nat} {l1 l2 : Option Value} {x : Nat} {m : jmM} {Q : Option Value → jmM → Prop} : AW d 220 31 [some (.ref x), l1, l2] [] m Q ↔ AW d 220 32 [some (.ref x), l1, l2] [.ref x] m Q := A_aload_n hB_X12_reads dX12_reads_31 rfl
theorem dX12_reads_32 : decode cX12_reads 32 = .ok (.getfield 29, 3) := by decide +kernel
theorem tX12_reads_32 {d : Nat} {l0 l1 l2 : Option Value} {a : Nat} {m : jmM} {Q : Option Value → jmM → Prop} : AW d 220 32 [l0, l1, l2] [.ref a] m Q ↔ (mS m a).1 = 12 ∧ AW d 220 35 [l0, l1, l2] [va_rf (mR m a 7)] m Q := A_getfield (f := fun m a => va_rf (mR m a 7)) hB_X12_reads dX12_reads_32 hO_X12_reads fF_12_29 rfl
theorem dX12_reads_35 : decode cX12_reads 35 = .ok (.iload_n 1, 1) := by decide +kernel
theorem tX12_reads_35 {d : Nat} {l0 l2 : Option Value} {v0 : Value} {x : Int32} {m : jmM} {Q : Option Value → jmM → Prop} : AW d 220 35 [l0, some (.int x), l2] [v0] m Q ↔ AW d 220 36 [l0, some (.int x), l2] [.int x, v0] m Q := A_iload_n hB_X12_reads dX12_reads_35 rfl
theorem dX12_reads_36 : decode cX12_reads 36 = .ok (.iconst (-1), 1) := by decide +kernel
theorem tX12_reads_36 {d : Nat} {l0 l1 l2 : Option Value} {v0 v1 : Value} {m : jmM} {Q : Option Value → jmM → Prop} : AW d 220 36 [l0, l1, l2] [v0, v1] m Q ↔ AW d 220 37 [l0, l1, l2] [.int (-1), v0, v1] m Q := A_iconst hB_X12_reads dX12_reads_36 (by decide)
theorem dX12_reads_37 : decode cX12_reads 37 = .ok (.iastore, 1) := by decide +kernel
theorem tX12_reads_37 {d : Nat} {l0 l1 l2 : Option Value} {x i : Int32} {a : Nat} {m : jmM} {Q : Option Value → jmM → Prop} : AW d 220 37 [l0, l1, l2] [.int x, .int i, .ref a] m Q ↔ ((mS m a).1 = 20 ∧ jIx i (mS m a).2) ∧ AW d 220 38 [l0, l1, l2] [] (cI m a (jup (mI m a) (jx i) x)) Q := A_iastore hB_X12_reads dX12_reads_37
theorem dX12_reads_38 : decode cX12_reads 38 = .ok (.aload_n 0, 1) := by decide +kernel
theorem tX12_reads_38 {d : Nat} {l1 l2 : Option Value} {x : Nat} {m : jmM} {Q : Option Value → jmM → Prop} : AW d 220 38 [some (.ref x), l1, l2] [] m Q ↔ AW d 220 39 [some (.ref x), l1, l2] [.ref x] m Q := A_aload_n hB_X12_reads dX12_reads_38 rfl
theorem dX12_reads_39 : decode cX12_reads 39 = .ok (.getfield 32, 3) := by decide +kernel
theorem tX12_reads_39 {d : Nat} {l0 l1 l2 : Option Value} {a : Nat} {m : jmM} {Q : Option Value → jmM → Prop} : AW d 220 39 [l0, l1, l2] [.ref a] m Q ↔ (mS m a).1 = 12 ∧ AW d 220 42 [l0, l1, l2] [va_rf (mR m a 8)] m Q := A_getfield (f := fun m a => va_rf (mR m a 8)) hB_X12_reads dX12_reads_39 hO_X12_reads fF_12_32 rfl
theorem dX12_reads_42 : decode cX12_reads 42 = .ok (.iload_n 1, 1) := by decide +kernel
theorem tX12_reads_42 {d : Nat} {l0 l2 : Option Value} {v0 : Value} {x : Int32} {m : jmM} {Q : Option Value → jmM → Prop} : AW d 220 42 [l0, some (.int x), l2] [v0] m Q ↔ AW d 220 43 [l0, some (.int x), l2] [.int x, v0] m Q := A_iload_n hB_X12_reads dX12_reads_42 rfl
theorem dX12_reads_43 : decode cX12_reads 43 = .ok (.iconst (-1), 1) := by decide +kernel
theorem tX12_reads_43 {d : Nat} {l0 l1 l2 : Option Value} {v0 v1 : Value} {m : jmM} {Q : Option Value → jmM → Prop} : AW d 220 43 [l0, l1, l2] [v0, v1] m Q ↔ AW d 220 44 [l0, l1, l2] [.int (-1), v0, v1] m Q := A_iconst hB_X12_reads dX12_reads_43 (by decide)
theorem dX12_reads_44 : decode cX12_reads 44 = .ok (.iastore, 1) := by decide +kernel
theorem tX12_reads_44 {d : Nat} {l0 l1 l2 : Option Value} {x i : Int32} {a : Nat} {m : jmM} {Q : Option Value → jmM → Prop} : AW d 220 44 [l0, l1, l2] [.int x, .int i, .ref a] m Q ↔ ((mS m a).1 = 20 ∧ jIx i (mS m a).2) ∧ AW d 220 45 [l0, l1, l2] [] (cI m a (jup (mI m a) (jx i) x)) Q := A_iastore hB_X12_reads dX12_reads_44
theorem dX12_reads_45 : decode cX12_reads 45 = .ok (.aload_n 0, 1) := by decide +kernel
theorem tX12_reads_45 {d : Nat} {l1 l2 : Option Value} {x : Nat} {m : jmM} {Q : Option Value → jmM → Prop} : AW d 220 45 [some (.ref x), l1, l2] [] m Q ↔ AW d 220 46 [some (.ref x), l1, l2] [.ref x] m Q := A_aload_n hB_X12_reads dX12_reads_45 rfl
theorem dX12_reads_46 : decode cX12_reads 46 = .ok (.iconst 0, 1) := by decide +kernel
theorem tX12_reads_46 {d : Nat} {l0 l1 l2 : Option Value} {v0 : Value} {m : jmM} {Q : Option Value → jmM → Prop} : AW d 220 46 [l0, l1, l2] [v0] m Q ↔ AW d 220 47 [l0, l1, l2] [.int 0, v0] m Q := A_iconst hB_X12_reads dX12_reads_46 (by decide)
theorem dX12_reads_47 : decode cX12_reads 47 = .ok (.putfield 111, 3) := by decide +kernel
theorem tX12_reads_47 {d : Nat} {l0 l1 l2 : Option Value} {x : Int32} {a : Nat} {m : jmM} {Q : Option Value → jmM → Prop} : AW d 220 47 [l0, l1, l2] [.int x, .ref a] m Q ↔ (mS m a).1 = 12 ∧ AW d 220 50 [l0, l1, l2] [] (cI m a (jup (mI m a) 11 x)) Q := A_putI hB_X12_reads dX12_reads_47 hO_X12_reads fF_12_111 rfl (fun h => Bool.noConfusion h)
theorem dX12_reads_50 : decode cX12_reads 50 = .ok (.aload_n 0, 1) := by decide +kernel
theorem tX12_reads_50 {d : Nat} {l1 l2 : Option Value} {x : Nat} {m : jmM} {Q : Option Value → jmM → Prop} : AW d 220 50 [some (.ref x), l1, l2] [] m Q ↔ AW d 220 51 [some (.ref x), l1, l2] [.ref x] m Q := A_aload_n hB_X12_reads dX12_reads_50 rfl
theorem dX12_reads_51 : decode cX12_reads 51 = .ok (.iconst 0, 1) := by decide +kernel
theorem tX12_reads_51 {d : Nat} {l0 l1 l2 : Option Value} {v0 : Value} {m : jmM} {Q : Option Value → jmM → Prop} : AW d 220 51 [l0, l1, l2] [v0] m Q ↔ AW d 220 52 [l0, l1, l2] [.int 0, v0] m Q := A_iconst hB_X12_reads dX12_reads_51 (by decide)
theorem dX12_reads_52 : decode cX12_reads 52 = .ok (.putfield 108, 3) := by decide +kernel
theorem tX12_reads_52 {d : Nat} {l0 l1 l2 : Option Value} {x : Int32} {a : Nat} {m : jmM} {Q : Option Value → jmM → Prop} : AW d 220 52 [l0, l1, l2] [.int x, .ref a] m Q ↔ (mS m a).1 = 12 ∧ AW d 220 55 [l0, l1, l2] [] (cI m a (jup (mI m a) 12 x)) Q := A_putI hB_X12_reads dX12_reads_52 hO_X12_reads fF_12_108 rfl (fun h => Bool.noConfusion h)
theorem dX12_reads_55 : decode cX12_reads 55 = .ok (.aload_n 0, 1) := by decide +kernel
theorem tX12_reads_55 {d : Nat} {l1 l2 : Option Value} {x : Nat} {m : jmM} {Q : Option Value → jmM → Prop} : AW d 220 55 [some (.ref x), l1, l2] [] m Q ↔ AW d 220 56 [some (.ref x), l1, l2] [.ref x] m Q := A_aload_n hB_X12_reads dX12_reads_55 rfl
theorem dX12_reads_56 : decode cX12_reads 56 = .ok (.iconst 0, 1) := by decide +kernel
theorem tX12_reads_56 {d : Nat} {l0 l1 l2 : Option Value} {v0 : Value} {m : jmM} {Q : Option Value → jmM → Prop} : AW d 220 56 [l0, l1, l2] [v0] m Q ↔ AW d 220 57 [l0, l1, l2] [.int 0, v0] m Q := A_iconst hB_X12_reads dX12_reads_56 (by decide)
theorem dX12_reads_57 : decode cX12_reads 57 = .ok (.putfield 160, 3) := by decide +kernel
theorem tX12_reads_57 {d : Nat} {l0 l1 l2 : Option Value} {x : Int32} {a : Nat} {m : jmM} {Q : Option Value → jmM → Prop} : AW d 220 57 [l0, l1, l2] [.int x, .ref a] m Q ↔ (mS m a).1 = 12 ∧ AW d 220 60 [l0, l1, l2] [] (cI m a (jup (mI m a) 15 x)) Q := A_putI hB_X12_reads dX12_reads_57 hO_X12_reads fF_12_160 rfl (fun h => Bool.noConfusion h)
theorem dX12_reads_60 : decode cX12_reads 60 = .ok (.aload_n 0, 1) := by decide +kernel
theorem tX12_reads_60 {d : Nat} {l1 l2 : Option Value} {x : Nat} {m : jmM} {Q : Option Value → jmM → Prop} : AW d 220 60 [some (.ref x), l1, l2] [] m Q ↔ AW d 220 61 [some (.ref x), l1, l2] [.ref x] m Q := A_aload_n hB_X12_reads dX12_reads_60 rfl
theorem dX12_reads_61 : decode cX12_reads 61 = .ok (.invokevirtual 248, 3) := by decide +kernel
theorem tX12_reads_61 {d : Nat} {l0 l1 l2 : Option Value} {a : Nat} {m : jmM} {Q : Option Value → jmM → Prop} : AW d 220 61 [l0, l1, l2] [.ref a] m Q ↔ (mS m a).1 = 12 ∧ CC d 219 [.ref a] m (jK d 220 64 [l0, l1, l2] [] Q) := A_callV hB_X12_reads dX12_reads_61 hO_X12_reads fS_12_248 ⟨Nat.le_of_ble_eq_true rfl, Nat.le_of_ble_eq_true rfl⟩ rfl rfl rfl
theorem dX12_reads_64 : decode cX12_reads 64 = .ok (.istore_n 2, 1) := by decide +kernel
theorem tX12_reads_64 {d : Nat} {l0 l1 l2 : Option Value} {x : Int32} {m : jmM} {Q : Option Value → jmM → Prop} : AW d 220 64 [l0, l1, l2] [.int x] m Q ↔ AW d 220 65 [l0, jc1 l1, some (.int x)] [] m Q := A_istore_n hB_X12_reads dX12_reads_64 (Nat.le_of_ble_eq_true rfl) rfl
theorem dX12_reads_65 : decode cX12_reads 65 = .ok (.iload_n 2, 1) := by decide +kernel
theorem tX12_reads_65 {d : Nat} {l0 l1 : Option Value} {x : Int32} {m : jmM} {Q : Option Value → jmM → Prop} : AW d 220 65 [l0, l1, some (.int x)] [] m Q ↔ AW d 220 66 [l0, l1, some (.int x)] [.int x] m Q := A_iload_n hB_X12_reads dX12_reads_65 rfl
theorem dX12_reads_66 : decode cX12_reads 66 = .ok (.ifCond .eq 30, 3) := by decide +kernel
theorem tX12_reads_66 {d : Nat} {l0 l1 l2 : Option Value} {x : Int32} {m : jmM} {Q : Option Value → jmM → Prop} : AW d 220 66 [l0, l1, l2] [.int x] m Q ↔ if x = 0 then AW d 220 96 [l0, l1, l2] [] m Q else AW d 220 69 [l0, l1, l2] [] m Q := A_if_eq hB_X12_reads dX12_reads_66 (by decide)
theorem dX12_reads_69 : decode cX12_reads 69 = .ok (.aload_n 0, 1) := by decide +kernel
theorem tX12_reads_69 {d : Nat} {l1 l2 : Option Value} {x : Nat} {m : jmM} {Q : Option Value → jmM → Prop} : AW d 220 69 [some (.ref x), l1, l2] [] m Q ↔ AW d 220 70 [some (.ref x), l1, l2] [.ref x] m Q := A_aload_n hB_X12_reads dX12_reads_69 rfl
theorem dX12_reads_70 : decode cX12_reads 70 = .ok (.invokevirtual 114, 3) := by decide +kernel
theorem tX12_reads_70 {d : Nat} {l0 l1 l2 : Option Value} {a : Nat} {m : jmM} {Q : Option Value → jmM → Prop} : AW d 220 70 [l0, l1, l2] [.ref a] m Q ↔ (mS m a).1 = 12 ∧ CC d 195 [.ref a] m (jK d 220 73 [l0, l1, l2] [] Q) := A_callV hB_X12_reads dX12_reads_70 hO_X12_reads fS_12_114 ⟨Nat.le_of_ble_eq_true rfl, Nat.le_of_ble_eq_true rfl⟩ rfl rfl rfl
theorem dX12_reads_73 : decode cX12_reads 73 = .ok (.bipush 59, 2) := by decide +kernel
theorem tX12_reads_73 {d : Nat} {l0 l1 l2 : Option Value} {v0 : Value} {m : jmM} {Q : Option Value → jmM → Prop} : AW d 220 73 [l0, l1, l2] [v0] m Q ↔ AW d 220 75 [l0, l1, l2] [.int 59, v0] m Q := A_bipush hB_X12_reads dX12_reads_73 rfl
theorem dX12_reads_75 : decode cX12_reads 75 = .ok (.if_icmp .ne 21, 3) := by decide +kernel
theorem tX12_reads_75 {d : Nat} {l0 l1 l2 : Option Value} {x y : Int32} {m : jmM} {Q : Option Value → jmM → Prop} : AW d 220 75 [l0, l1, l2] [.int y, .int x] m Q ↔ if x = y then AW d 220 78 [l0, l1, l2] [] m Q else AW d 220 96 [l0, l1, l2] [] m Q := A_icmp_ne hB_X12_reads dX12_reads_75 (by decide)
theorem dX12_reads_78 : decode cX12_reads 78 = .ok (.aload_n 0, 1) := by decide +kernel
theorem tX12_reads_78 {d : Nat} {l1 l2 : Option Value} {x : Nat} {m : jmM} {Q : Option Value → jmM → Prop} : AW d 220 78 [some (.ref x), l1, l2] [] m Q ↔ AW d 220 79 [some (.ref x), l1, l2] [.ref x] m Q := A_aload_n hB_X12_reads dX12_reads_78 rfl
theorem dX12_reads_79 : decode cX12_reads 79 = .ok (.dup, 1) := by decide +kernel
theorem tX12_reads_79 {d : Nat} {l0 l1 l2 : Option Value} {x : Nat} {m : jmM} {Q : Option Value → jmM → Prop} : AW d 220 79 [l0, l1, l2] [.ref x] m Q ↔ AW d 220 80 [l0, l1, l2] [.ref x, .ref x] m Q := A_dup_a hB_X12_reads dX12_reads_79
theorem dX12_reads_80 : decode cX12_reads 80 = .ok (.getfield 111, 3) := by decide +kernel
theorem tX12_reads_80 {d : Nat} {l0 l1 l2 : Option Value} {v1 : Value} {a : Nat} {m : jmM} {Q : Option Value → jmM → Prop} : AW d 220 80 [l0, l1, l2] [.ref a, v1] m Q ↔ (mS m a).1 = 12 ∧ AW d 220 83 [l0, l1, l2] [.int (mI m a 11), v1] m Q := A_getfield (f := fun m a => .int (mI m a 11)) hB_X12_reads dX12_reads_80 hO_X12_reads fF_12_111 rfl
theorem dX12_reads_83 : decode cX12_reads 83 = .ok (.iconst 1, 1) := by decide +kernel
theorem tX12_reads_83 {d : Nat} {l0 l1 l2 : Option Value} {v0 v1 : Value} {m : jmM} {Q : Option Value → jmM → Prop} : AW d 220 83 [l0, l1, l2] [v0, v1] m Q ↔ AW d 220 84 [l0, l1, l2] [.int 1, v0, v1] m Q := A_iconst hB_X12_reads dX12_reads_83 (by decide)
theorem dX12_reads_84 : decode cX12_reads 84 = .ok (.iadd, 1) := by decide +kernel
theorem tX12_reads_84 {d : Nat} {l0 l1 l2 : Option Value} {v2 : Value} {x y : Int32} {m : jmM} {Q : Option Value → jmM → Prop} : AW d 220 84 [l0, l1, l2] [.int y, .int x, v2] m Q ↔ AW d 220 85 [l0, l1, l2] [.int (x + y), v2] m Q := A_iadd hB_X12_reads dX12_reads_84
theorem dX12_reads_85 : decode cX12_reads 85 = .ok (.putfield 111, 3) := by decide +kernel
theorem tX12_reads_85 {d : Nat} {l0 l1 l2 : Option Value} {x : Int32} {a : Nat} {m : jmM} {Q : Option Value → jmM → Prop} : AW d 220 85 [l0, l1, l2] [.int x, .ref a] m Q ↔ (mS m a).1 = 12 ∧ AW d 220 88 [l0, l1, l2] [] (cI m a (jup (mI m a) 11 x)) Q := A_putI hB_X12_reads dX12_reads_85 hO_X12_reads fF_12_111 rfl (fun h => Bool.noConfusion h)
theorem dX12_reads_88 : decode cX12_reads 88 = .ok (.aload_n 0, 1) := by decide +kernel
theorem tX12_reads_88 {d : Nat} {l1 l2 : Option Value} {x : Nat} {m : jmM} {Q : Option Value → jmM → Prop} : AW d 220 88 [some (.ref x), l1, l2] [] m Q ↔ AW d 220 89 [some (.ref x), l1, l2] [.ref x] m Q := A_aload_n hB_X12_reads dX12_reads_88 rfl
theorem dX12_reads_89 : decode cX12_reads 89 = .ok (.invokevirtual 248, 3) := by decide +kernel
theorem tX12_reads_89 {d : Nat} {l0 l1 l2 : Option Value} {a : Nat} {m : jmM} {Q : Option Value → jmM → Prop} : AW d 220 89 [l0, l1, l2] [.ref a] m Q ↔ (mS m a).1 = 12 ∧ CC d 219 [.ref a] m (jK d 220 92 [l0, l1, l2] [] Q) := A_callV hB_X12_reads dX12_reads_89 hO_X12_reads fS_12_248 ⟨Nat.le_of_ble_eq_true rfl, Nat.le_of_ble_eq_true rfl⟩ rfl rfl rfl
theorem dX12_reads_92 : decode cX12_reads 92 = .ok (.istore_n 2, 1) := by decide +kernel
theorem tX12_reads_92 {d : Nat} {l0 l1 l2 : Option Value} {x : Int32} {m : jmM} {Q : Option Value → jmM → Prop} : AW d 220 92 [l0, l1, l2] [.int x] m Q ↔ AW d 220 93 [l0, jc1 l1, some (.int x)] [] m Q := A_istore_n hB_X12_reads dX12_reads_92 (Nat.le_of_ble_eq_true rfl) rfl
theorem dX12_reads_93 : decode cX12_reads 93 = .ok (.goto (-28), 3) := by decide +kernel
theorem tX12_reads_93 {d : Nat} {l0 l1 l2 : Option Value} {m : jmM} {Q : Option Value → jmM → Prop} : AW d 220 93 [l0, l1, l2] [] m Q ↔ AW d 220 65 [l0, l1, l2] [] m Q := A_goto hB_X12_reads dX12_reads_93 (by decide)
theorem dX12_reads_96 : decode cX12_reads 96 = .ok (.iload_n 2, 1) := by decide +kernel
theorem tX12_reads_96 {d : Nat} {l0 l1 : Option Value} {x : Int32} {m : jmM} {Q : Option Value → jmM → Prop} : AW d 220 96 [l0, l1, some (.int x)] [] m Q ↔ AW d 220 97 [l0, l1, some (.int x)] [.int x] m Q := A_iload_n hB_X12_reads dX12_reads_96 rfl
theorem dX12_reads_97 : decode cX12_reads 97 = .ok (.ifCond .eq 21, 3) := by decide +kernel
theorem tX12_reads_97 {d : Nat} {l0 l1 l2 : Option Value} {x : Int32} {m : jmM} {Q : Option Value → jmM → Prop} : AW d 220 97 [l0, l1, l2] [.int x] m Q ↔ if x = 0 then AW d 220 118 [l0, l1, l2] [] m Q else AW d 220 100 [l0, l1, l2] [] m Q := A_if_eq hB_X12_reads dX12_reads_97 (by decide)
theorem dX12_reads_100 : decode cX12_reads 100 = .ok (.aload_n 0, 1) := by decide +kernel
theorem tX12_reads_100 {d : Nat} {l1 l2 : Option Value} {x : Nat} {m : jmM} {Q : Option Value → jmM → Prop} : AW d 220 100 [some (.ref x), l1, l2] [] m Q ↔ AW d 220 101 [some (.ref x), l1, l2] [.ref x] m Q := A_aload_n hB_X12_reads dX12_reads_100 rfl
theorem dX12_reads_101 : decode cX12_reads 101 = .ok (.invokevirtual 114, 3) := by decide +kernel
theorem tX12_reads_101 {d : Nat} {l0 l1 l2 : Option Value} {a : Nat} {m : jmM} {Q : Option Value → jmM → Prop} : AW d 220 101 [l0, l1, l2] [.ref a] m Q ↔ (mS m a).1 = 12 ∧ CC d 195 [.ref a] m (jK d 220 104 [l0, l1, l2] [] Q) := A_callV hB_X12_reads dX12_reads_101 hO_X12_reads fS_12_114 ⟨Nat.le_of_ble_eq_true rfl, Nat.le_of_ble_eq_true rfl⟩ rfl rfl rfl
theorem dX12_reads_104 : decode cX12_reads 104 = .ok (.iconst (-1), 1) := by decide +kernel
theorem tX12_reads_104 {d : Nat} {l0 l1 l2 : Option Value} {v0 : Value} {m : jmM} {Q : Option Value → jmM → Prop} : AW d 220 104 [l0, l1, l2] [v0] m Q ↔ AW d 220 105 [l0, l1, l2] [.int (-1), v0] m Q := A_iconst hB_X12_reads dX12_reads_104 (by decide)
theorem dX12_reads_105 : decode cX12_reads 105 = .ok (.if_icmp .eq 13, 3) := by decide +kernel
theorem tX12_reads_105 {d : Nat} {l0 l1 l2 : Option Value} {x y : Int32} {m : jmM} {Q : Option Value → jmM → Prop} : AW d 220 105 [l0, l1, l2] [.int y, .int x] m Q ↔ if x = y then AW d 220 118 [l0, l1, l2] [] m Q else AW d 220 108 [l0, l1, l2] [] m Q := A_icmp_eq hB_X12_reads dX12_reads_105 (by decide)
theorem dX12_reads_108 : decode cX12_reads 108 = .ok (.aload_n 0, 1) := by decide +kernel
theorem tX12_reads_108 {d : Nat} {l1 l2 : Option Value} {x : Nat} {m : jmM} {Q : Option Value → jmM → Prop} : AW d 220 108 [some (.ref x), l1, l2] [] m Q ↔ AW d 220 109 [some (.ref x), l1, l2] [.ref x] m Q := A_aload_n hB_X12_reads dX12_reads_108 rfl
theorem dX12_reads_109 : decode cX12_reads 109 = .ok (.iconst 0, 1) := by decide +kernel
theorem tX12_reads_109 {d : Nat} {l0 l1 l2 : Option Value} {v0 : Value} {m : jmM} {Q : Option Value → jmM → Prop} : AW d 220 109 [l0, l1, l2] [v0] m Q ↔ AW d 220 110 [l0, l1, l2] [.int 0, v0] m Q := A_iconst hB_X12_reads dX12_reads_109 (by decide)
theorem dX12_reads_110 : decode cX12_reads 110 = .ok (.aload_n 0, 1) := by decide +kernel
theorem tX12_reads_110 {d : Nat} {l1 l2 : Option Value} {v0 v1 : Value} {x : Nat} {m : jmM} {Q : Option Value → jmM → Prop} : AW d 220 110 [some (.ref x), l1, l2] [v0, v1] m Q ↔ AW d 220 111 [some (.ref x), l1, l2] [.ref x, v0, v1] m Q := A_aload_n hB_X12_reads dX12_reads_110 rfl
theorem dX12_reads_111 : decode cX12_reads 111 = .ok (.getfield 111, 3) := by decide +kernel
theorem tX12_reads_111 {d : Nat} {l0 l1 l2 : Option Value} {v1 v2 : Value} {a : Nat} {m : jmM} {Q : Option Value → jmM → Prop} : AW d 220 111 [l0, l1, l2] [.ref a, v1, v2] m Q ↔ (mS m a).1 = 12 ∧ AW d 220 114 [l0, l1, l2] [.int (mI m a 11), v1, v2] m Q := A_getfield (f := fun m a => .int (mI m a 11)) hB_X12_reads dX12_reads_111 hO_X12_reads fF_12_111 rfl
theorem dX12_reads_114 : decode cX12_reads 114 = .ok (.invokevirtual 132, 3) := by decide +kernel
theorem tX12_reads_114 {d : Nat} {l0 l1 l2 : Option Value} {y0 y1 : Value} {a : Nat} {m : jmM} {Q : Option Value → jmM → Prop} : AW d 220 114 [l0, l1, l2] [y0, y1, .ref a] m Q ↔ (mS m a).1 = 12 ∧ CC d 194 [.ref a, y1, y0] m (jK d 220 117 [l0, l1, l2] [] Q) := A_callV hB_X12_reads dX12_reads_114 hO_X12_reads fS_12_132 ⟨Nat.le_of_ble_eq_true rfl, Nat.le_of_ble_eq_true rfl⟩ rfl rfl rfl
theorem dX12_reads_117 : decode cX12_reads 117 = .ok (.pop, 1) := by decide +kernel
theorem tX12_reads_117 {d : Nat} {l0 l1 l2 : Option Value} {x : Int32} {m : jmM} {Q : Option Value → jmM → Prop} : AW d 220 117 [l0, l1, l2] [.int x] m Q ↔ AW d 220 118 [l0, l1, l2] [] m Q := A_pop_i hB_X12_reads dX12_reads_117
theorem dX12_reads_118 : decode cX12_reads 118 = .ok (.aload_n 0, 1) := by decide +kernel
theorem tX12_reads_118 {d : Nat} {l1 l2 : Option Value} {x : Nat} {m : jmM} {Q : Option Value → jmM → Prop} : AW d 220 118 [some (.ref x), l1, l2] [] m Q ↔ AW d 220 119 [some (.ref x), l1, l2] [.ref x] m Q := A_aload_n hB_X12_reads dX12_reads_118 rfl
theorem dX12_reads_119 : decode cX12_reads 119 = .ok (.iconst 0, 1) := by decide +kernel
theorem tX12_reads_119 {d : Nat} {l0 l1 l2 : Option Value} {v0 : Value} {m : jmM} {Q : Option Value → jmM → Prop} : AW d 220 119 [l0, l1, l2] [v0] m Q ↔ AW d 220 120 [l0, l1, l2] [.int 0, v0] m Q := A_iconst hB_X12_reads dX12_reads_119 (by decide)
theorem dX12_reads_120 : decode cX12_reads 120 = .ok (.putfield 101, 3) := by decide +kernel
theorem tX12_reads_120 {d : Nat} {l0 l1 l2 : Option Value} {x : Int32} {a : Nat} {m : jmM} {Q : Option Value → jmM → Prop} : AW d 220 120 [l0, l1, l2] [.int x, .ref a] m Q ↔ (mS m a).1 = 12 ∧ AW d 220 123 [l0, l1, l2] [] (cI m a (jup (mI m a) 1 x)) Q := A_putI hB_X12_reads dX12_reads_120 hO_X12_reads fF_12_101 rfl (fun h => Bool.noConfusion h)
theorem dX12_reads_123 : decode cX12_reads 123 = .ok (.aload_n 0, 1) := by decide +kernel
theorem tX12_reads_123 {d : Nat} {l1 l2 : Option Value} {x : Nat} {m : jmM} {Q : Option Value → jmM → Prop} : AW d 220 123 [some (.ref x), l1, l2] [] m Q ↔ AW d 220 124 [some (.ref x), l1, l2] [.ref x] m Q := A_aload_n hB_X12_reads dX12_reads_123 rfl
theorem dX12_reads_124 : decode cX12_reads 124 = .ok (.getfield 26, 3) := by decide +kernel
theorem tX12_reads_124 {d : Nat} {l0 l1 l2 : Option Value} {a : Nat} {m : jmM} {Q : Option Value → jmM → Prop} : AW d 220 124 [l0, l1, l2] [.ref a] m Q ↔ (mS m a).1 = 12 ∧ AW d 220 127 [l0, l1, l2] [va_rf (mR m a 6)] m Q := A_getfield (f := fun m a => va_rf (mR m a 6)) hB_X12_reads dX12_reads_124 hO_X12_reads fF_12_26 rfl
theorem dX12_reads_127 : decode cX12_reads 127 = .ok (.iload_n 1, 1) := by decide +kernel
theorem tX12_reads_127 {d : Nat} {l0 l2 : Option Value} {v0 : Value} {x : Int32} {m : jmM} {Q : Option Value → jmM → Prop} : AW d 220 127 [l0, some (.int x), l2] [v0] m Q ↔ AW d 220 128 [l0, some (.int x), l2] [.int x, v0] m Q := A_iload_n hB_X12_reads dX12_reads_127 rfl
theorem dX12_reads_128 : decode cX12_reads 128 = .ok (.aload_n 0, 1) := by decide +kernel
theorem tX12_reads_128 {d : Nat} {l1 l2 : Option Value} {v0 v1 : Value} {x : Nat} {m : jmM} {Q : Option Value → jmM → Prop} : AW d 220 128 [some (.ref x), l1, l2] [v0, v1] m Q ↔ AW d 220 129 [some (.ref x), l1, l2] [.ref x, v0, v1] m Q := A_aload_n hB_X12_reads dX12_reads_128 rfl
theorem dX12_reads_129 : decode cX12_reads 129 = .ok (.getfield 26, 3) := by decide +kernel
theorem tX12_reads_129 {d : Nat} {l0 l1 l2 : Option Value} {v1 v2 : Value} {a : Nat} {m : jmM} {Q : Option Value → jmM → Prop} : AW d 220 129 [l0, l1, l2] [.ref a, v1, v2] m Q ↔ (mS m a).1 = 12 ∧ AW d 220 132 [l0, l1, l2] [va_rf (mR m a 6), v1, v2] m Q := A_getfield (f := fun m a => va_rf (mR m a 6)) hB_X12_reads dX12_reads_129 hO_X12_reads fF_12_26 rfl
theorem dX12_reads_132 : decode cX12_reads 132 = .ok (.iload_n 1, 1) := by decide +kernel
theorem tX12_reads_132 {d : Nat} {l0 l2 : Option Value} {v0 v1 v2 : Value} {x : Int32} {m : jmM} {Q : Option Value → jmM → Prop} : AW d 220 132 [l0, some (.int x), l2] [v0, v1, v2] m Q ↔ AW d 220 133 [l0, some (.int x), l2] [.int x, v0, v1, v2] m Q := A_iload_n hB_X12_reads dX12_reads_132 rfl
theorem dX12_reads_133 : decode cX12_reads 133 = .ok (.iaload, 1) := by decide +kernel
theorem tX12_reads_133 {d : Nat} {l0 l1 l2 : Option Value} {v2 v3 : Value} {i : Int32} {a : Nat} {m : jmM} {Q : Option Value → jmM → Prop} : AW d 220 133 [l0, l1, l2] [.int i, .ref a, v2, v3] m Q ↔ (((mS m a).1 = 20 ∨ a = jScr) ∧ jIx i (mS m a).2) ∧ AW d 220 134 [l0, l1, l2] [.int (mI m a (jx i)), v2, v3] m Q := A_iaload hB_X12_reads dX12_reads_133
theorem dX12_reads_134 : decode cX12_reads 134 = .ok (.ifCond .ge 7, 3) := by decide +kernel
theorem tX12_reads_134 {d : Nat} {l0 l1 l2 : Option Value} {v1 v2 : Value} {x : Int32} {m : jmM} {Q : Option Value → jmM → Prop} : AW d 220 134 [l0, l1, l2] [.int x, v1, v2] m Q ↔ if 0 ≤ x then AW d 220 141 [l0, l1, l2] [v1, v2] m Q else AW d 220 137 [l0, l1, l2] [v1, v2] m Q := A_if_ge hB_X12_reads dX12_reads_134 (by decide)
theorem dX12_reads_137 : decode cX12_reads 137 = .ok (.iconst 0, 1) := by decide +kernel
theorem tX12_reads_137 {d : Nat} {l0 l1 l2 : Option Value} {v0 v1 : Value} {m : jmM} {Q : Option Value → jmM → Prop} : AW d 220 137 [l0, l1, l2] [v0, v1] m Q ↔ AW d 220 138 [l0, l1, l2] [.int 0, v0, v1] m Q := A_iconst hB_X12_reads dX12_reads_137 (by decide)
theorem dX12_reads_138 : decode cX12_reads 138 = .ok (.goto 9, 3) := by decide +kernel
theorem tX12_reads_138 {d : Nat} {l0 l1 l2 : Option Value} {v0 v1 v2 : Value} {m : jmM} {Q : Option Value → jmM → Prop} : AW d 220 138 [l0, l1, l2] [v0, v1, v2] m Q ↔ AW d 220 147 [l0, l1, l2] [v0, v1, v2] m Q := A_goto hB_X12_reads dX12_reads_138 (by decide)
theorem dX12_reads_141 : decode cX12_reads 141 = .ok (.aload_n 0, 1) := by decide +kernel
theorem tX12_reads_141 {d : Nat} {l1 l2 : Option Value} {v0 v1 : Value} {x : Nat} {m : jmM} {Q : Option Value → jmM → Prop} : AW d 220 141 [some (.ref x), l1, l2] [v0, v1] m Q ↔ AW d 220 142 [some (.ref x), l1, l2] [.ref x, v0, v1] m Q := A_aload_n hB_X12_reads dX12_reads_141 rfl
theorem dX12_reads_142 : decode cX12_reads 142 = .ok (.getfield 26, 3) := by decide +kernel
theorem tX12_reads_142 {d : Nat} {l0 l1 l2 : Option Value} {v1 v2 : Value} {a : Nat} {m : jmM} {Q : Option Value → jmM → Prop} : AW d 220 142 [l0, l1, l2] [.ref a, v1, v2] m Q ↔ (mS m a).1 = 12 ∧ AW d 220 145 [l0, l1, l2] [va_rf (mR m a 6), v1, v2] m Q := A_getfield (f := fun m a => va_rf (mR m a 6)) hB_X12_reads dX12_reads_142 hO_X12_reads fF_12_26 rfl
theorem dX12_reads_145 : decode cX12_reads 145 = .ok (.iload_n 1, 1) := by decide +kernel
theorem tX12_reads_145 {d : Nat} {l0 l2 : Option Value} {v0 v1 v2 : Value} {x : Int32} {m : jmM} {Q : Option Value → jmM → Prop} : AW d 220 145 [l0, some (.int x), l2] [v0, v1, v2] m Q ↔ AW d 220 146 [l0, some (.int x), l2] [.int x, v0, v1, v2] m Q := A_iload_n hB_X12_reads dX12_reads_145 rfl
theorem dX12_reads_146 : decode cX12_reads 146 = .ok (.iaload, 1) := by decide +kernel
theorem tX12_reads_146 {d : Nat} {l0 l1 l2 : Option Value} {v2 v3 : Value} {i : Int32} {a : Nat} {m : jmM} {Q : Option Value → jmM → Prop} : AW d 220 146 [l0, l1, l2] [.int i, .ref a, v2, v3] m Q ↔ (((mS m a).1 = 20 ∨ a = jScr) ∧ jIx i (mS m a).2) ∧ AW d 220 147 [l0, l1, l2] [.int (mI m a (jx i)), v2, v3] m Q := A_iaload hB_X12_reads dX12_reads_146
theorem dX12_reads_147 : decode cX12_reads 147 = .ok (.iastore, 1) := by decide +kernel
theorem tX12_reads_147 {d : Nat} {l0 l1 l2 : Option Value} {x i : Int32} {a : Nat} {m : jmM} {Q : Option Value → jmM → Prop} : AW d 220 147 [l0, l1, l2] [.int x, .int i, .ref a] m Q ↔ ((mS m a).1 = 20 ∧ jIx i (mS m a).2) ∧ AW d 220 148 [l0, l1, l2] [] (cI m a (jup (mI m a) (jx i) x)) Q := A_iastore hB_X12_reads dX12_reads_147
theorem dX12_reads_148 : decode cX12_reads 148 = .ok (.aload_n 0, 1) := by decide +kernel
theorem tX12_reads_148 {d : Nat} {l1 l2 : Option Value} {x : Nat} {m : jmM} {Q : Option Value → jmM → Prop} : AW d 220 148 [some (.ref x), l1, l2] [] m Q ↔ AW d 220 149 [some (.ref x), l1, l2] [.ref x] m Q := A_aload_n hB_X12_reads dX12_reads_148 rfl
theorem dX12_reads_149 : decode cX12_reads 149 = .ok (.getfield 29, 3) := by decide +kernel
theorem tX12_reads_149 {d : Nat} {l0 l1 l2 : Option Value} {a : Nat} {m : jmM} {Q : Option Value → jmM → Prop} : AW d 220 149 [l0, l1, l2] [.ref a] m Q ↔ (mS m a).1 = 12 ∧ AW d 220 152 [l0, l1, l2] [va_rf (mR m a 7)] m Q := A_getfield (f := fun m a => va_rf (mR m a 7)) hB_X12_reads dX12_reads_149 hO_X12_reads fF_12_29 rfl
theorem dX12_reads_152 : decode cX12_reads 152 = .ok (.iload_n 1, 1) := by decide +kernel
theorem tX12_reads_152 {d : Nat} {l0 l2 : Option Value} {v0 : Value} {x : Int32} {m : jmM} {Q : Option Value → jmM → Prop} : AW d 220 152 [l0, some (.int x), l2] [v0] m Q ↔ AW d 220 153 [l0, some (.int x), l2] [.int x, v0] m Q := A_iload_n hB_X12_reads dX12_reads_152 rfl
theorem dX12_reads_153 : decode cX12_reads 153 = .ok (.aload_n 0, 1) := by decide +kernel
theorem tX12_reads_153 {d : Nat} {l1 l2 : Option Value} {v0 v1 : Value} {x : Nat} {m : jmM} {Q : Option Value → jmM → Prop} : AW d 220 153 [some (.ref x), l1, l2] [v0, v1] m Q ↔ AW d 220 154 [some (.ref x), l1, l2] [.ref x, v0, v1] m Q := A_aload_n hB_X12_reads dX12_reads_153 rfl
theorem dX12_reads_154 : decode cX12_reads 154 = .ok (.getfield 29, 3) := by decide +kernel
theorem tX12_reads_154 {d : Nat} {l0 l1 l2 : Option Value} {v1 v2 : Value} {a : Nat} {m : jmM} {Q : Option Value → jmM → Prop} : AW d 220 154 [l0, l1, l2] [.ref a, v1, v2] m Q ↔ (mS m a).1 = 12 ∧ AW d 220 157 [l0, l1, l2] [va_rf (mR m a 7), v1, v2] m Q := A_getfield (f := fun m a => va_rf (mR m a 7)) hB_X12_reads dX12_reads_154 hO_X12_reads fF_12_29 rfl
theorem dX12_reads_157 : decode cX12_reads 157 = .ok (.iload_n 1, 1) := by decide +kernel
theorem tX12_reads_157 {d : Nat} {l0 l2 : Option Value} {v0 v1 v2 : Value} {x : Int32} {m : jmM} {Q : Option Value → jmM → Prop} : AW d 220 157 [l0, some (.int x), l2] [v0, v1, v2] m Q ↔ AW d 220 158 [l0, some (.int x), l2] [.int x, v0, v1, v2] m Q := A_iload_n hB_X12_reads dX12_reads_157 rfl
theorem dX12_reads_158 : decode cX12_reads 158 = .ok (.iaload, 1) := by decide +kernel
theorem tX12_reads_158 {d : Nat} {l0 l1 l2 : Option Value} {v2 v3 : Value} {i : Int32} {a : Nat} {m : jmM} {Q : Option Value → jmM → Prop} : AW d 220 158 [l0, l1, l2] [.int i, .ref a, v2, v3] m Q ↔ (((mS m a).1 = 20 ∨ a = jScr) ∧ jIx i (mS m a).2) ∧ AW d 220 159 [l0, l1, l2] [.int (mI m a (jx i)), v2, v3] m Q := A_iaload hB_X12_reads dX12_reads_158
theorem dX12_reads_159 : decode cX12_reads 159 = .ok (.ifCond .ge 7, 3) := by decide +kernel
theorem tX12_reads_159 {d : Nat} {l0 l1 l2 : Option Value} {v1 v2 : Value} {x : Int32} {m : jmM} {Q : Option Value → jmM → Prop} : AW d 220 159 [l0, l1, l2] [.int x, v1, v2] m Q ↔ if 0 ≤ x then AW d 220 166 [l0, l1, l2] [v1, v2] m Q else AW d 220 162 [l0, l1, l2] [v1, v2] m Q := A_if_ge hB_X12_reads dX12_reads_159 (by decide)
theorem dX12_reads_162 : decode cX12_reads 162 = .ok (.iconst 0, 1) := by decide +kernel
theorem tX12_reads_162 {d : Nat} {l0 l1 l2 : Option Value} {v0 v1 : Value} {m : jmM} {Q : Option Value → jmM → Prop} : AW d 220 162 [l0, l1, l2] [v0, v1] m Q ↔ AW d 220 163 [l0, l1, l2] [.int 0, v0, v1] m Q := A_iconst hB_X12_reads dX12_reads_162 (by decide)
theorem dX12_reads_163 : decode cX12_reads 163 = .ok (.goto 9, 3) := by decide +kernel
theorem tX12_reads_163 {d : Nat} {l0 l1 l2 : Option Value} {v0 v1 v2 : Value} {m : jmM} {Q : Option Value → jmM → Prop} : AW d 220 163 [l0, l1, l2] [v0, v1, v2] m Q ↔ AW d 220 172 [l0, l1, l2] [v0, v1, v2] m Q := A_goto hB_X12_reads dX12_reads_163 (by decide)
theorem dX12_reads_166 : decode cX12_reads 166 = .ok (.aload_n 0, 1) := by decide +kernel
theorem tX12_reads_166 {d : Nat} {l1 l2 : Option Value} {v0 v1 : Value} {x : Nat} {m : jmM} {Q : Option Value → jmM → Prop} : AW d 220 166 [some (.ref x), l1, l2] [v0, v1] m Q ↔ AW d 220 167 [some (.ref x), l1, l2] [.ref x, v0, v1] m Q := A_aload_n hB_X12_reads dX12_reads_166 rfl
theorem dX12_reads_167 : decode cX12_reads 167 = .ok (.getfield 29, 3) := by decide +kernel
theorem tX12_reads_167 {d : Nat} {l0 l1 l2 : Option Value} {v1 v2 : Value} {a : Nat} {m : jmM} {Q : Option Value → jmM → Prop} : AW d 220 167 [l0, l1, l2] [.ref a, v1, v2] m Q ↔ (mS m a).1 = 12 ∧ AW d 220 170 [l0, l1, l2] [va_rf (mR m a 7), v1, v2] m Q := A_getfield (f := fun m a => va_rf (mR m a 7)) hB_X12_reads dX12_reads_167 hO_X12_reads fF_12_29 rfl
theorem dX12_reads_170 : decode cX12_reads 170 = .ok (.iload_n 1, 1) := by decide +kernel
theorem tX12_reads_170 {d : Nat} {l0 l2 : Option Value} {v0 v1 v2 : Value} {x : Int32} {m : jmM} {Q : Option Value → jmM → Prop} : AW d 220 170 [l0, some (.int x), l2] [v0, v1, v2] m Q ↔ AW d 220 171 [l0, some (.int x), l2] [.int x, v0, v1, v2] m Q := A_iload_n hB_X12_reads dX12_reads_170 rfl
theorem dX12_reads_171 : decode cX12_reads 171 = .ok (.iaload, 1) := by decide +kernel
theorem tX12_reads_171 {d : Nat} {l0 l1 l2 : Option Value} {v2 v3 : Value} {i : Int32} {a : Nat} {m : jmM} {Q : Option Value → jmM → Prop} : AW d 220 171 [l0, l1, l2] [.int i, .ref a, v2, v3] m Q ↔ (((mS m a).1 = 20 ∨ a = jScr) ∧ jIx i (mS m a).2) ∧ AW d 220 172 [l0, l1, l2] [.int (mI m a (jx i)), v2, v3] m Q := A_iaload hB_X12_reads dX12_reads_171
theorem dX12_reads_172 : decode cX12_reads 172 = .ok (.iastore, 1) := by decide +kernel
theorem tX12_reads_172 {d : Nat} {l0 l1 l2 : Option Value} {x i : Int32} {a : Nat} {m : jmM} {Q : Option Value → jmM → Prop} : AW d 220 172 [l0, l1, l2] [.int x, .int i, .ref a] m Q ↔ ((mS m a).1 = 20 ∧ jIx i (mS m a).2) ∧ AW d 220 173 [l0, l1, l2] [] (cI m a (jup (mI m a) (jx i) x)) Q := A_iastore hB_X12_reads dX12_reads_172
theorem dX12_reads_173 : decode cX12_reads 173 = .ok (.aload_n 0, 1) := by decide +kernel
theorem tX12_reads_173 {d : Nat} {l1 l2 : Option Value} {x : Nat} {m : jmM} {Q : Option Value → jmM → Prop} : AW d 220 173 [some (.ref x), l1, l2] [] m Q ↔ AW d 220 174 [some (.ref x), l1, l2] [.ref x] m Q := A_aload_n hB_X12_reads dX12_reads_173 rfl
theorem dX12_reads_174 : decode cX12_reads 174 = .ok (.getfield 32, 3) := by decide +kernel
theorem tX12_reads_174 {d : Nat} {l0 l1 l2 : Option Value} {a : Nat} {m : jmM} {Q : Option Value → jmM → Prop} : AW d 220 174 [l0, l1, l2] [.ref a] m Q ↔ (mS m a).1 = 12 ∧ AW d 220 177 [l0, l1, l2] [va_rf (mR m a 8)] m Q := A_getfield (f := fun m a => va_rf (mR m a 8)) hB_X12_reads dX12_reads_174 hO_X12_reads fF_12_32 rfl
theorem dX12_reads_177 : decode cX12_reads 177 = .ok (.iload_n 1, 1) := by decide +kernel
theorem tX12_reads_177 {d : Nat} {l0 l2 : Option Value} {v0 : Value} {x : Int32} {m : jmM} {Q : Option Value → jmM → Prop} : AW d 220 177 [l0, some (.int x), l2] [v0] m Q ↔ AW d 220 178 [l0, some (.int x), l2] [.int x, v0] m Q := A_iload_n hB_X12_reads dX12_reads_177 rfl
theorem dX12_reads_178 : decode cX12_reads 178 = .ok (.aload_n 0, 1) := by decide +kernel
theorem tX12_reads_178 {d : Nat} {l1 l2 : Option Value} {v0 v1 : Value} {x : Nat} {m : jmM} {Q : Option Value → jmM → Prop} : AW d 220 178 [some (.ref x), l1, l2] [v0, v1] m Q ↔ AW d 220 179 [some (.ref x), l1, l2] [.ref x, v0, v1] m Q := A_aload_n hB_X12_reads dX12_reads_178 rfl
theorem dX12_reads_179 : decode cX12_reads 179 = .ok (.getfield 32, 3) := by decide +kernel
theorem tX12_reads_179 {d : Nat} {l0 l1 l2 : Option Value} {v1 v2 : Value} {a : Nat} {m : jmM} {Q : Option Value → jmM → Prop} : AW d 220 179 [l0, l1, l2] [.ref a, v1, v2] m Q ↔ (mS m a).1 = 12 ∧ AW d 220 182 [l0, l1, l2] [va_rf (mR m a 8), v1, v2] m Q := A_getfield (f := fun m a => va_rf (mR m a 8)) hB_X12_reads dX12_reads_179 hO_X12_reads fF_12_32 rfl
theorem dX12_reads_182 : decode cX12_reads 182 = .ok (.iload_n 1, 1) := by decide +kernel
theorem tX12_reads_182 {d : Nat} {l0 l2 : Option Value} {v0 v1 v2 : Value} {x : Int32} {m : jmM} {Q : Option Value → jmM → Prop} : AW d 220 182 [l0, some (.int x), l2] [v0, v1, v2] m Q ↔ AW d 220 183 [l0, some (.int x), l2] [.int x, v0, v1, v2] m Q := A_iload_n hB_X12_reads dX12_reads_182 rfl
theorem dX12_reads_183 : decode cX12_reads 183 = .ok (.iaload, 1) := by decide +kernel
theorem tX12_reads_183 {d : Nat} {l0 l1 l2 : Option Value} {v2 v3 : Value} {i : Int32} {a : Nat} {m : jmM} {Q : Option Value → jmM → Prop} : AW d 220 183 [l0, l1, l2] [.int i, .ref a, v2, v3] m Q ↔ (((mS m a).1 = 20 ∨ a = jScr) ∧ jIx i (mS m a).2) ∧ AW d 220 184 [l0, l1, l2] [.int (mI m a (jx i)), v2, v3] m Q := A_iaload hB_X12_reads dX12_reads_183
theorem dX12_reads_184 : decode cX12_reads 184 = .ok (.ifCond .ge 7, 3) := by decide +kernel
theorem tX12_reads_184 {d : Nat} {l0 l1 l2 : Option Value} {v1 v2 : Value} {x : Int32} {m : jmM} {Q : Option Value → jmM → Prop} : AW d 220 184 [l0, l1, l2] [.int x, v1, v2] m Q ↔ if 0 ≤ x then AW d 220 191 [l0, l1, l2] [v1, v2] m Q else AW d 220 187 [l0, l1, l2] [v1, v2] m Q := A_if_ge hB_X12_reads dX12_reads_184 (by decide)
theorem dX12_reads_187 : decode cX12_reads 187 = .ok (.iconst 0, 1) := by decide +kernel
theorem tX12_reads_187 {d : Nat} {l0 l1 l2 : Option Value} {v0 v1 : Value} {m : jmM} {Q : Option Value → jmM → Prop} : AW d 220 187 [l0, l1, l2] [v0, v1] m Q ↔ AW d 220 188 [l0, l1, l2] [.int 0, v0, v1] m Q := A_iconst hB_X12_reads dX12_reads_187 (by decide)
theorem dX12_reads_188 : decode cX12_reads 188 = .ok (.goto 9, 3) := by decide +kernel
theorem tX12_reads_188 {d : Nat} {l0 l1 l2 : Option Value} {v0 v1 v2 : Value} {m : jmM} {Q : Option Value → jmM → Prop} : AW d 220 188 [l0, l1, l2] [v0, v1, v2] m Q ↔ AW d 220 197 [l0, l1, l2] [v0, v1, v2] m Q := A_goto hB_X12_reads dX12_reads_188 (by decide)
theorem dX12_reads_191 : decode cX12_reads 191 = .ok (.aload_n 0, 1) := by decide +kernel
theorem tX12_reads_191 {d : Nat} {l1 l2 : Option Value} {v0 v1 : Value} {x : Nat} {m : jmM} {Q : Option Value → jmM → Prop} : AW d 220 191 [some (.ref x), l1, l2] [v0, v1] m Q ↔ AW d 220 192 [some (.ref x), l1, l2] [.ref x, v0, v1] m Q := A_aload_n hB_X12_reads dX12_reads_191 rfl
theorem dX12_reads_192 : decode cX12_reads 192 = .ok (.getfield 32, 3) := by decide +kernel
theorem tX12_reads_192 {d : Nat} {l0 l1 l2 : Option Value} {v1 v2 : Value} {a : Nat} {m : jmM} {Q : Option Value → jmM → Prop} : AW d 220 192 [l0, l1, l2] [.ref a, v1, v2] m Q ↔ (mS m a).1 = 12 ∧ AW d 220 195 [l0, l1, l2] [va_rf (mR m a 8), v1, v2] m Q := A_getfield (f := fun m a => va_rf (mR m a 8)) hB_X12_reads dX12_reads_192 hO_X12_reads fF_12_32 rfl
theorem dX12_reads_195 : decode cX12_reads 195 = .ok (.iload_n 1, 1) := by decide +kernel
theorem tX12_reads_195 {d : Nat} {l0 l2 : Option Value} {v0 v1 v2 : Value} {x : Int32} {m : jmM} {Q : Option Value → jmM → Prop} : AW d 220 195 [l0, some (.int x), l2] [v0, v1, v2] m Q ↔ AW d 220 196 [l0, some (.int x), l2] [.int x, v0, v1, v2] m Q := A_iload_n hB_X12_reads dX12_reads_195 rfl
theorem dX12_reads_196 : decode cX12_reads 196 = .ok (.iaload, 1) := by decide +kernel
theorem tX12_reads_196 {d : Nat} {l0 l1 l2 : Option Value} {v2 v3 : Value} {i : Int32} {a : Nat} {m : jmM} {Q : Option Value → jmM → Prop} : AW d 220 196 [l0, l1, l2] [.int i, .ref a, v2, v3] m Q ↔ (((mS m a).1 = 20 ∨ a = jScr) ∧ jIx i (mS m a).2) ∧ AW d 220 197 [l0, l1, l2] [.int (mI m a (jx i)), v2, v3] m Q := A_iaload hB_X12_reads dX12_reads_196
theorem dX12_reads_197 : decode cX12_reads 197 = .ok (.iastore, 1) := by decide +kernel
theorem tX12_reads_197 {d : Nat} {l0 l1 l2 : Option Value} {x i : Int32} {a : Nat} {m : jmM} {Q : Option Value → jmM → Prop} : AW d 220 197 [l0, l1, l2] [.int x, .int i, .ref a] m Q ↔ ((mS m a).1 = 20 ∧ jIx i (mS m a).2) ∧ AW d 220 198 [l0, l1, l2] [] (cI m a (jup (mI m a) (jx i) x)) Q := A_iastore hB_X12_reads dX12_reads_197
theorem dX12_reads_198 : decode cX12_reads 198 = .ok (.aload_n 0, 1) := by decide +kernel
theorem tX12_reads_198 {d : Nat} {l1 l2 : Option Value} {x : Nat} {m : jmM} {Q : Option Value → jmM → Prop} : AW d 220 198 [some (.ref x), l1, l2] [] m Q ↔ AW d 220 199 [some (.ref x), l1, l2] [.ref x] m Q := A_aload_n hB_X12_reads dX12_reads_198 rfl
theorem dX12_reads_199 : decode cX12_reads 199 = .ok (.getfield 108, 3) := by decide +kernel
theorem tX12_reads_199 {d : Nat} {l0 l1 l2 : Option Value} {a : Nat} {m : jmM} {Q : Option Value → jmM → Prop} : AW d 220 199 [l0, l1, l2] [.ref a] m Q ↔ (mS m a).1 = 12 ∧ AW d 220 202 [l0, l1, l2] [.int (mI m a 12)] m Q := A_getfield (f := fun m a => .int (mI m a 12)) hB_X12_reads dX12_reads_199 hO_X12_reads fF_12_108 rfl
theorem dX12_reads_202 : decode cX12_reads 202 = .ok (.ireturn, 1) := by decide +kernel
theorem tX12_reads_202 {d : Nat} {l0 l1 l2 : Option Value} {x : Int32} {m : jmM} {Q : Option Value → jmM → Prop} : AW d 220 202 [l0, l1, l2] [.int x] m Q ↔ Q (some (.int x)) m := A_ireturn hB_X12_reads dX12_reads_202 hR_X12_reads
theorem hB_X12_furnace : jB 221 = cX12_furnace := rfl
theorem hO_X12_furnace : jO 221 = 12 := rfl
theorem hR_X12_furnace : jRt 221 = (some .int) := rfl
theorem nX12_furnace (d : Nat) (x0 : Nat) (m : jmM) (Q : Option Value → jmM → Prop) : CC (d + 1) 221 [.ref x0] m Q ↔ AW d 221 0 [some (.ref x0), none] [] m Q := CC_body (Nat.le_of_ble_eq_true rfl)
theorem dX12_furnace_0 : decode cX12_furnace 0 = .ok (.aload_n 0, 1) := by decide +kernel
theorem tX12_furnace_0 {d : Nat} {l1 : Option Value} {x : Nat} {m : jmM} {Q : Option Value → jmM → Prop} : AW d 221 0 [some (.ref x), l1] [] m Q ↔ AW d 221 1 [some (.ref x), l1] [.ref x] m Q := A_aload_n hB_X12_furnace dX12_furnace_0 rfl
theorem dX12_furnace_1 : decode cX12_furnace 1 = .ok (.getfield 251, 3) := by decide +kernel
theorem tX12_furnace_1 {d : Nat} {l0 l1 : Option Value} {a : Nat} {m : jmM} {Q : Option Value → jmM → Prop} : AW d 221 1 [l0, l1] [.ref a] m Q ↔ (mS m a).1 = 12 ∧ AW d 221 4 [l0, l1] [.int (mI m a 9)] m Q := A_getfield (f := fun m a => .int (mI m a 9)) hB_X12_furnace dX12_furnace_1 hO_X12_furnace fF_12_251 rfl
theorem dX12_furnace_4 : decode cX12_furnace 4 = .ok (.iconst 4, 1) := by decide +kernel
theorem tX12_furnace_4 {d : Nat} {l0 l1 : Option Value} {v0 : Value} {m : jmM} {Q : Option Value → jmM → Prop} : AW d 221 4 [l0, l1] [v0] m Q ↔ AW d 221 5 [l0, l1] [.int 4, v0] m Q := A_iconst hB_X12_furnace dX12_furnace_4 (by decide)
theorem dX12_furnace_5 : decode cX12_furnace 5 = .ok (.if_icmp .ne 5, 3) := by decide +kernel
theorem tX12_furnace_5 {d : Nat} {l0 l1 : Option Value} {x y : Int32} {m : jmM} {Q : Option Value → jmM → Prop} : AW d 221 5 [l0, l1] [.int y, .int x] m Q ↔ if x = y then AW d 221 8 [l0, l1] [] m Q else AW d 221 10 [l0, l1] [] m Q := A_icmp_ne hB_X12_furnace dX12_furnace_5 (by decide)
theorem dX12_furnace_8 : decode cX12_furnace 8 = .ok (.iconst (-1), 1) := by decide +kernel
theorem tX12_furnace_8 {d : Nat} {l0 l1 : Option Value} {m : jmM} {Q : Option Value → jmM → Prop} : AW d 221 8 [l0, l1] [] m Q ↔ AW d 221 9 [l0, l1] [.int (-1)] m Q := A_iconst hB_X12_furnace dX12_furnace_8 (by decide)
theorem dX12_furnace_9 : decode cX12_furnace 9 = .ok (.ireturn, 1) := by decide +kernel
theorem tX12_furnace_9 {d : Nat} {l0 l1 : Option Value} {x : Int32} {m : jmM} {Q : Option Value → jmM → Prop} : AW d 221 9 [l0, l1] [.int x] m Q ↔ Q (some (.int x)) m := A_ireturn hB_X12_furnace dX12_furnace_9 hR_X12_furnace
theorem dX12_furnace_10 : decode cX12_furnace 10 = .ok (.aload_n 0, 1) := by decide +kernel
theorem tX12_furnace_10 {d : Nat} {l1 : Option Value} {x : Nat} {m : jmM} {Q : Option Value → jmM → Prop} : AW d 221 10 [some (.ref x), l1] [] m Q ↔ AW d 221 11 [some (.ref x), l1] [.ref x] m Q := A_aload_n hB_X12_furnace dX12_furnace_10 rfl
theorem dX12_furnace_11 : decode cX12_furnace 11 = .ok (.aload_n 0, 1) := by decide +kernel
theorem tX12_furnace_11 {d : Nat} {l1 : Option Value} {v0 : Value} {x : Nat} {m : jmM} {Q : Option Value → jmM → Prop} : AW d 221 11 [some (.ref x), l1] [v0] m Q ↔ AW d 221 12 [some (.ref x), l1] [.ref x, v0] m Q := A_aload_n hB_X12_furnace dX12_furnace_11 rfl
theorem dX12_furnace_12 : decode cX12_furnace 12 = .ok (.getfield 251, 3) := by decide +kernel
theorem tX12_furnace_12 {d : Nat} {l0 l1 : Option Value} {v1 : Value} {a : Nat} {m : jmM} {Q : Option Value → jmM → Prop} : AW d 221 12 [l0, l1] [.ref a, v1] m Q ↔ (mS m a).1 = 12 ∧ AW d 221 15 [l0, l1] [.int (mI m a 9), v1] m Q := A_getfield (f := fun m a => .int (mI m a 9)) hB_X12_furnace dX12_furnace_12 hO_X12_furnace fF_12_251 rfl
theorem dX12_furnace_15 : decode cX12_furnace 15 = .ok (.invokevirtual 254, 3) := by decide +kernel
theorem tX12_furnace_15 {d : Nat} {l0 l1 : Option Value} {y0 : Value} {a : Nat} {m : jmM} {Q : Option Value → jmM → Prop} : AW d 221 15 [l0, l1] [y0, .ref a] m Q ↔ (mS m a).1 = 12 ∧ CC d 220 [.ref a, y0] m (jK d 221 18 [l0, l1] [] Q) := A_callV hB_X12_furnace dX12_furnace_15 hO_X12_furnace fS_12_254 ⟨Nat.le_of_ble_eq_true rfl, Nat.le_of_ble_eq_true rfl⟩ rfl rfl rfl
theorem dX12_furnace_18 : decode cX12_furnace 18 = .ok (.istore_n 1, 1) := by decide +kernel
theorem tX12_furnace_18 {d : Nat} {l0 l1 : Option Value} {x : Int32} {m : jmM} {Q : Option Value → jmM → Prop} : AW d 221 18 [l0, l1] [.int x] m Q ↔ AW d 221 19 [jc1 l0, some (.int x)] [] m Q := A_istore_n hB_X12_furnace dX12_furnace_18 (Nat.le_of_ble_eq_true rfl) rfl
theorem dX12_furnace_19 : decode cX12_furnace 19 = .ok (.iload_n 1, 1) := by decide +kernel
theorem tX12_furnace_19 {d : Nat} {l0 : Option Value} {x : Int32} {m : jmM} {Q : Option Value → jmM → Prop} : AW d 221 19 [l0, some (.int x)] [] m Q ↔ AW d 221 20 [l0, some (.int x)] [.int x] m Q := A_iload_n hB_X12_furnace dX12_furnace_19 rfl
theorem dX12_furnace_20 : decode cX12_furnace 20 = .ok (.ifCond .le 8, 3) := by decide +kernel
theorem tX12_furnace_20 {d : Nat} {l0 l1 : Option Value} {x : Int32} {m : jmM} {Q : Option Value → jmM → Prop} : AW d 221 20 [l0, l1] [.int x] m Q ↔ if x ≤ 0 then AW d 221 28 [l0, l1] [] m Q else AW d 221 23 [l0, l1] [] m Q := A_if_le hB_X12_furnace dX12_furnace_20 (by decide)
theorem dX12_furnace_23 : decode cX12_furnace 23 = .ok (.bipush (-2), 2) := by decide +kernel
theorem tX12_furnace_23 {d : Nat} {l0 l1 : Option Value} {m : jmM} {Q : Option Value → jmM → Prop} : AW d 221 23 [l0, l1] [] m Q ↔ AW d 221 25 [l0, l1] [.int (-2)] m Q := A_bipush hB_X12_furnace dX12_furnace_23 rfl
theorem dX12_furnace_25 : decode cX12_furnace 25 = .ok (.iload_n 1, 1) := by decide +kernel
theorem tX12_furnace_25 {d : Nat} {l0 : Option Value} {v0 : Value} {x : Int32} {m : jmM} {Q : Option Value → jmM → Prop} : AW d 221 25 [l0, some (.int x)] [v0] m Q ↔ AW d 221 26 [l0, some (.int x)] [.int x, v0] m Q := A_iload_n hB_X12_furnace dX12_furnace_25 rfl
theorem dX12_furnace_26 : decode cX12_furnace 26 = .ok (.isub, 1) := by decide +kernel
theorem tX12_furnace_26 {d : Nat} {l0 l1 : Option Value} {x y : Int32} {m : jmM} {Q : Option Value → jmM → Prop} : AW d 221 26 [l0, l1] [.int y, .int x] m Q ↔ AW d 221 27 [l0, l1] [.int (x - y)] m Q := A_isub hB_X12_furnace dX12_furnace_26
theorem dX12_furnace_27 : decode cX12_furnace 27 = .ok (.ireturn, 1) := by decide +kernel
theorem tX12_furnace_27 {d : Nat} {l0 l1 : Option Value} {x : Int32} {m : jmM} {Q : Option Value → jmM → Prop} : AW d 221 27 [l0, l1] [.int x] m Q ↔ Q (some (.int x)) m := A_ireturn hB_X12_furnace dX12_furnace_27 hR_X12_furnace
theorem dX12_furnace_28 : decode cX12_furnace 28 = .ok (.aload_n 0, 1) := by decide +kernel
theorem tX12_furnace_28 {d : Nat} {l1 : Option Value} {x : Nat} {m : jmM} {Q : Option Value → jmM → Prop} : AW d 221 28 [some (.ref x), l1] [] m Q ↔ AW d 221 29 [some (.ref x), l1] [.ref x] m Q := A_aload_n hB_X12_furnace dX12_furnace_28 rfl
theorem dX12_furnace_29 : decode cX12_furnace 29 = .ok (.dup, 1) := by decide +kernel
theorem tX12_furnace_29 {d : Nat} {l0 l1 : Option Value} {x : Nat} {m : jmM} {Q : Option Value → jmM → Prop} : AW d 221 29 [l0, l1] [.ref x] m Q ↔ AW d 221 30 [l0, l1] [.ref x, .ref x] m Q := A_dup_a hB_X12_furnace dX12_furnace_29
theorem dX12_furnace_30 : decode cX12_furnace 30 = .ok (.getfield 251, 3) := by decide +kernel
theorem tX12_furnace_30 {d : Nat} {l0 l1 : Option Value} {v1 : Value} {a : Nat} {m : jmM} {Q : Option Value → jmM → Prop} : AW d 221 30 [l0, l1] [.ref a, v1] m Q ↔ (mS m a).1 = 12 ∧ AW d 221 33 [l0, l1] [.int (mI m a 9), v1] m Q := A_getfield (f := fun m a => .int (mI m a 9)) hB_X12_furnace dX12_furnace_30 hO_X12_furnace fF_12_251 rfl
theorem dX12_furnace_33 : decode cX12_furnace 33 = .ok (.iconst 1, 1) := by decide +kernel
theorem tX12_furnace_33 {d : Nat} {l0 l1 : Option Value} {v0 v1 : Value} {m : jmM} {Q : Option Value → jmM → Prop} : AW d 221 33 [l0, l1] [v0, v1] m Q ↔ AW d 221 34 [l0, l1] [.int 1, v0, v1] m Q := A_iconst hB_X12_furnace dX12_furnace_33 (by decide)
theorem dX12_furnace_34 : decode cX12_furnace 34 = .ok (.iadd, 1) := by decide +kernel
theorem tX12_furnace_34 {d : Nat} {l0 l1 : Option Value} {v2 : Value} {x y : Int32} {m : jmM} {Q : Option Value → jmM → Prop} : AW d 221 34 [l0, l1] [.int y, .int x, v2] m Q ↔ AW d 221 35 [l0, l1] [.int (x + y), v2] m Q := A_iadd hB_X12_furnace dX12_furnace_34
theorem dX12_furnace_35 : decode cX12_furnace 35 = .ok (.putfield 251, 3) := by decide +kernel
theorem tX12_furnace_35 {d : Nat} {l0 l1 : Option Value} {x : Int32} {a : Nat} {m : jmM} {Q : Option Value → jmM → Prop} : AW d 221 35 [l0, l1] [.int x, .ref a] m Q ↔ (mS m a).1 = 12 ∧ AW d 221 38 [l0, l1] [] (cI m a (jup (mI m a) 9 x)) Q := A_putI hB_X12_furnace dX12_furnace_35 hO_X12_furnace fF_12_251 rfl (fun h => Bool.noConfusion h)
theorem dX12_furnace_38 : decode cX12_furnace 38 = .ok (.aload_n 0, 1) := by decide +kernel
theorem tX12_furnace_38 {d : Nat} {l1 : Option Value} {x : Nat} {m : jmM} {Q : Option Value → jmM → Prop} : AW d 221 38 [some (.ref x), l1] [] m Q ↔ AW d 221 39 [some (.ref x), l1] [.ref x] m Q := A_aload_n hB_X12_furnace dX12_furnace_38 rfl
theorem dX12_furnace_39 : decode cX12_furnace 39 = .ok (.getfield 251, 3) := by decide +kernel
theorem tX12_furnace_39 {d : Nat} {l0 l1 : Option Value} {a : Nat} {m : jmM} {Q : Option Value → jmM → Prop} : AW d 221 39 [l0, l1] [.ref a] m Q ↔ (mS m a).1 = 12 ∧ AW d 221 42 [l0, l1] [.int (mI m a 9)] m Q := A_getfield (f := fun m a => .int (mI m a 9)) hB_X12_furnace dX12_furnace_39 hO_X12_furnace fF_12_251 rfl
theorem dX12_furnace_42 : decode cX12_furnace 42 = .ok (.iconst 1, 1) := by decide +kernel
theorem tX12_furnace_42 {d : Nat} {l0 l1 : Option Value} {v0 : Value} {m : jmM} {Q : Option Value → jmM → Prop} : AW d 221 42 [l0, l1] [v0] m Q ↔ AW d 221 43 [l0, l1] [.int 1, v0] m Q := A_iconst hB_X12_furnace dX12_furnace_42 (by decide)
theorem dX12_furnace_43 : decode cX12_furnace 43 = .ok (.isub, 1) := by decide +kernel
theorem tX12_furnace_43 {d : Nat} {l0 l1 : Option Value} {x y : Int32} {m : jmM} {Q : Option Value → jmM → Prop} : AW d 221 43 [l0, l1] [.int y, .int x] m Q ↔ AW d 221 44 [l0, l1] [.int (x - y)] m Q := A_isub hB_X12_furnace dX12_furnace_43
theorem dX12_furnace_44 : decode cX12_furnace 44 = .ok (.ireturn, 1) := by decide +kernel
theorem tX12_furnace_44 {d : Nat} {l0 l1 : Option Value} {x : Int32} {m : jmM} {Q : Option Value → jmM → Prop} : AW d 221 44 [l0, l1] [.int x] m Q ↔ Q (some (.int x)) m := A_ireturn hB_X12_furnace dX12_furnace_44 hR_X12_furnace
theorem hB_X12_minder : jB 222 = cX12_minder := rfl
theorem hO_X12_minder : jO 222 = 12 := rfl
theorem hR_X12_minder : jRt 222 = (some .int) := rfl
theorem nX12_minder (d : Nat) (x0 : Nat) (m : jmM) (Q : Option Value → jmM → Prop) : CC (d + 1) 222 [.ref x0] m Q ↔ AW d 222 0 [some (.ref x0), none] [] m Q := CC_body (Nat.le_of_ble_eq_true rfl)
theorem dX12_minder_0 : decode cX12_minder 0 = .ok (.aload_n 0, 1) := by decide +kernel
theorem tX12_minder_0 {d : Nat} {l1 : Option Value} {x : Nat} {m : jmM} {Q : Option Value → jmM → Prop} : AW d 222 0 [some (.ref x), l1] [] m Q ↔ AW d 222 1 [some (.ref x), l1] [.ref x] m Q := A_aload_n hB_X12_minder dX12_minder_0 rfl
theorem dX12_minder_1 : decode cX12_minder 1 = .ok (.getfield 257, 3) := by decide +kernel
theorem tX12_minder_1 {d : Nat} {l0 l1 : Option Value} {a : Nat} {m : jmM} {Q : Option Value → jmM → Prop} : AW d 222 1 [l0, l1] [.ref a] m Q ↔ (mS m a).1 = 12 ∧ AW d 222 4 [l0, l1] [.int (mI m a 10)] m Q := A_getfield (f := fun m a => .int (mI m a 10)) hB_X12_minder dX12_minder_1 hO_X12_minder fF_12_257 rfl
theorem dX12_minder_4 : decode cX12_minder 4 = .ok (.bipush 8, 2) := by decide +kernel
theorem tX12_minder_4 {d : Nat} {l0 l1 : Option Value} {v0 : Value} {m : jmM} {Q : Option Value → jmM → Prop} : AW d 222 4 [l0, l1] [v0] m Q ↔ AW d 222 6 [l0, l1] [.int 8, v0] m Q := A_bipush hB_X12_minder dX12_minder_4 rfl
theorem dX12_minder_6 : decode cX12_minder 6 = .ok (.if_icmp .ne 5, 3) := by decide +kernel
theorem tX12_minder_6 {d : Nat} {l0 l1 : Option Value} {x y : Int32} {m : jmM} {Q : Option Value → jmM → Prop} : AW d 222 6 [l0, l1] [.int y, .int x] m Q ↔ if x = y then AW d 222 9 [l0, l1] [] m Q else AW d 222 11 [l0, l1] [] m Q := A_icmp_ne hB_X12_minder dX12_minder_6 (by decide)
theorem dX12_minder_9 : decode cX12_minder 9 = .ok (.iconst (-1), 1) := by decide +kernel
theorem tX12_minder_9 {d : Nat} {l0 l1 : Option Value} {m : jmM} {Q : Option Value → jmM → Prop} : AW d 222 9 [l0, l1] [] m Q ↔ AW d 222 10 [l0, l1] [.int (-1)] m Q := A_iconst hB_X12_minder dX12_minder_9 (by decide)
theorem dX12_minder_10 : decode cX12_minder 10 = .ok (.ireturn, 1) := by decide +kernel
theorem tX12_minder_10 {d : Nat} {l0 l1 : Option Value} {x : Int32} {m : jmM} {Q : Option Value → jmM → Prop} : AW d 222 10 [l0, l1] [.int x] m Q ↔ Q (some (.int x)) m := A_ireturn hB_X12_minder dX12_minder_10 hR_X12_minder
theorem dX12_minder_11 : decode cX12_minder 11 = .ok (.aload_n 0, 1) := by decide +kernel
theorem tX12_minder_11 {d : Nat} {l1 : Option Value} {x : Nat} {m : jmM} {Q : Option Value → jmM → Prop} : AW d 222 11 [some (.ref x), l1] [] m Q ↔ AW d 222 12 [some (.ref x), l1] [.ref x] m Q := A_aload_n hB_X12_minder dX12_minder_11 rfl
theorem dX12_minder_12 : decode cX12_minder 12 = .ok (.iconst 4, 1) := by decide +kernel
theorem tX12_minder_12 {d : Nat} {l0 l1 : Option Value} {v0 : Value} {m : jmM} {Q : Option Value → jmM → Prop} : AW d 222 12 [l0, l1] [v0] m Q ↔ AW d 222 13 [l0, l1] [.int 4, v0] m Q := A_iconst hB_X12_minder dX12_minder_12 (by decide)
theorem dX12_minder_13 : decode cX12_minder 13 = .ok (.aload_n 0, 1) := by decide +kernel
theorem tX12_minder_13 {d : Nat} {l1 : Option Value} {v0 v1 : Value} {x : Nat} {m : jmM} {Q : Option Value → jmM → Prop} : AW d 222 13 [some (.ref x), l1] [v0, v1] m Q ↔ AW d 222 14 [some (.ref x), l1] [.ref x, v0, v1] m Q := A_aload_n hB_X12_minder dX12_minder_13 rfl
theorem dX12_minder_14 : decode cX12_minder 14 = .ok (.getfield 257, 3) := by decide +kernel
theorem tX12_minder_14 {d : Nat} {l0 l1 : Option Value} {v1 v2 : Value} {a : Nat} {m : jmM} {Q : Option Value → jmM → Prop} : AW d 222 14 [l0, l1] [.ref a, v1, v2] m Q ↔ (mS m a).1 = 12 ∧ AW d 222 17 [l0, l1] [.int (mI m a 10), v1, v2] m Q := A_getfield (f := fun m a => .int (mI m a 10)) hB_X12_minder dX12_minder_14 hO_X12_minder fF_12_257 rfl
theorem dX12_minder_17 : decode cX12_minder 17 = .ok (.iadd, 1) := by decide +kernel
theorem tX12_minder_17 {d : Nat} {l0 l1 : Option Value} {v2 : Value} {x y : Int32} {m : jmM} {Q : Option Value → jmM → Prop} : AW d 222 17 [l0, l1] [.int y, .int x, v2] m Q ↔ AW d 222 18 [l0, l1] [.int (x + y), v2] m Q := A_iadd hB_X12_minder dX12_minder_17
theorem dX12_minder_18 : decode cX12_minder 18 = .ok (.invokevirtual 254, 3) := by decide +kernel
theorem tX12_minder_18 {d : Nat} {l0 l1 : Option Value} {y0 : Value} {a : Nat} {m : jmM} {Q : Option Value → jmM → Prop} : AW d 222 18 [l0, l1] [y0, .ref a] m Q ↔ (mS m a).1 = 12 ∧ CC d 220 [.ref a, y0] m (jK d 222 21 [l0, l1] [] Q) := A_callV hB_X12_minder dX12_minder_18 hO_X12_minder fS_12_254 ⟨Nat.le_of_ble_eq_true rfl, Nat.le_of_ble_eq_true rfl⟩ rfl rfl rfl
theorem dX12_minder_21 : decode cX12_minder 21 = .ok (.istore_n 1, 1) := by decide +kernel
theorem tX12_minder_21 {d : Nat} {l0 l1 : Option Value} {x : Int32} {m : jmM} {Q : Option Value → jmM → Prop} : AW d 222 21 [l0, l1] [.int x] m Q ↔ AW d 222 22 [jc1 l0, some (.int x)] [] m Q := A_istore_n hB_X12_minder dX12_minder_21 (Nat.le_of_ble_eq_true rfl) rfl
theorem dX12_minder_22 : decode cX12_minder 22 = .ok (.iload_n 1, 1) := by decide +kernel
theorem tX12_minder_22 {d : Nat} {l0 : Option Value} {x : Int32} {m : jmM} {Q : Option Value → jmM → Prop} : AW d 222 22 [l0, some (.int x)] [] m Q ↔ AW d 222 23 [l0, some (.int x)] [.int x] m Q := A_iload_n hB_X12_minder dX12_minder_22 rfl
theorem dX12_minder_23 : decode cX12_minder 23 = .ok (.ifCond .le 8, 3) := by decide +kernel
theorem tX12_minder_23 {d : Nat} {l0 l1 : Option Value} {x : Int32} {m : jmM} {Q : Option Value → jmM → Prop} : AW d 222 23 [l0, l1] [.int x] m Q ↔ if x ≤ 0 then AW d 222 31 [l0, l1] [] m Q else AW d 222 26 [l0, l1] [] m Q := A_if_le hB_X12_minder dX12_minder_23 (by decide)
theorem dX12_minder_26 : decode cX12_minder 26 = .ok (.bipush (-2), 2) := by decide +kernel
theorem tX12_minder_26 {d : Nat} {l0 l1 : Option Value} {m : jmM} {Q : Option Value → jmM → Prop} : AW d 222 26 [l0, l1] [] m Q ↔ AW d 222 28 [l0, l1] [.int (-2)] m Q := A_bipush hB_X12_minder dX12_minder_26 rfl
theorem dX12_minder_28 : decode cX12_minder 28 = .ok (.iload_n 1, 1) := by decide +kernel
theorem tX12_minder_28 {d : Nat} {l0 : Option Value} {v0 : Value} {x : Int32} {m : jmM} {Q : Option Value → jmM → Prop} : AW d 222 28 [l0, some (.int x)] [v0] m Q ↔ AW d 222 29 [l0, some (.int x)] [.int x, v0] m Q := A_iload_n hB_X12_minder dX12_minder_28 rfl
theorem dX12_minder_29 : decode cX12_minder 29 = .ok (.isub, 1) := by decide +kernel
theorem tX12_minder_29 {d : Nat} {l0 l1 : Option Value} {x y : Int32} {m : jmM} {Q : Option Value → jmM → Prop} : AW d 222 29 [l0, l1] [.int y, .int x] m Q ↔ AW d 222 30 [l0, l1] [.int (x - y)] m Q := A_isub hB_X12_minder dX12_minder_29
theorem dX12_minder_30 : decode cX12_minder 30 = .ok (.ireturn, 1) := by decide +kernel
theorem tX12_minder_30 {d : Nat} {l0 l1 : Option Value} {x : Int32} {m : jmM} {Q : Option Value → jmM → Prop} : AW d 222 30 [l0, l1] [.int x] m Q ↔ Q (some (.int x)) m := A_ireturn hB_X12_minder dX12_minder_30 hR_X12_minder
theorem dX12_minder_31 : decode cX12_minder 31 = .ok (.aload_n 0, 1) := by decide +kernel
theorem tX12_minder_31 {d : Nat} {l1 : Option Value} {x : Nat} {m : jmM} {Q : Option Value → jmM → Prop} : AW d 222 31 [some (.ref x), l1] [] m Q ↔ AW d 222 32 [some (.ref x), l1] [.ref x] m Q := A_aload_n hB_X12_minder dX12_minder_31 rfl
theorem dX12_minder_32 : decode cX12_minder 32 = .ok (.dup, 1) := by decide +kernel
theorem tX12_minder_32 {d : Nat} {l0 l1 : Option Value} {x : Nat} {m : jmM} {Q : Option Value → jmM → Prop} : AW d 222 32 [l0, l1] [.ref x] m Q ↔ AW d 222 33 [l0, l1] [.ref x, .ref x] m Q := A_dup_a hB_X12_minder dX12_minder_32
theorem dX12_minder_33 : decode cX12_minder 33 = .ok (.getfield 257, 3) := by decide +kernel
theorem tX12_minder_33 {d : Nat} {l0 l1 : Option Value} {v1 : Value} {a : Nat} {m : jmM} {Q : Option Value → jmM → Prop} : AW d 222 33 [l0, l1] [.ref a, v1] m Q ↔ (mS m a).1 = 12 ∧ AW d 222 36 [l0, l1] [.int (mI m a 10), v1] m Q := A_getfield (f := fun m a => .int (mI m a 10)) hB_X12_minder dX12_minder_33 hO_X12_minder fF_12_257 rfl
theorem dX12_minder_36 : decode cX12_minder 36 = .ok (.iconst 1, 1) := by decide +kernel
theorem tX12_minder_36 {d : Nat} {l0 l1 : Option Value} {v0 v1 : Value} {m : jmM} {Q : Option Value → jmM → Prop} : AW d 222 36 [l0, l1] [v0, v1] m Q ↔ AW d 222 37 [l0, l1] [.int 1, v0, v1] m Q := A_iconst hB_X12_minder dX12_minder_36 (by decide)
theorem dX12_minder_37 : decode cX12_minder 37 = .ok (.iadd, 1) := by decide +kernel
theorem tX12_minder_37 {d : Nat} {l0 l1 : Option Value} {v2 : Value} {x y : Int32} {m : jmM} {Q : Option Value → jmM → Prop} : AW d 222 37 [l0, l1] [.int y, .int x, v2] m Q ↔ AW d 222 38 [l0, l1] [.int (x + y), v2] m Q := A_iadd hB_X12_minder dX12_minder_37
theorem dX12_minder_38 : decode cX12_minder 38 = .ok (.putfield 257, 3) := by decide +kernel
theorem tX12_minder_38 {d : Nat} {l0 l1 : Option Value} {x : Int32} {a : Nat} {m : jmM} {Q : Option Value → jmM → Prop} : AW d 222 38 [l0, l1] [.int x, .ref a] m Q ↔ (mS m a).1 = 12 ∧ AW d 222 41 [l0, l1] [] (cI m a (jup (mI m a) 10 x)) Q := A_putI hB_X12_minder dX12_minder_38 hO_X12_minder fF_12_257 rfl (fun h => Bool.noConfusion h)
theorem dX12_minder_41 : decode cX12_minder 41 = .ok (.aload_n 0, 1) := by decide +kernel
theorem tX12_minder_41 {d : Nat} {l1 : Option Value} {x : Nat} {m : jmM} {Q : Option Value → jmM → Prop} : AW d 222 41 [some (.ref x), l1] [] m Q ↔ AW d 222 42 [some (.ref x), l1] [.ref x] m Q := A_aload_n hB_X12_minder dX12_minder_41 rfl
theorem dX12_minder_42 : decode cX12_minder 42 = .ok (.getfield 257, 3) := by decide +kernel
theorem tX12_minder_42 {d : Nat} {l0 l1 : Option Value} {a : Nat} {m : jmM} {Q : Option Value → jmM → Prop} : AW d 222 42 [l0, l1] [.ref a] m Q ↔ (mS m a).1 = 12 ∧ AW d 222 45 [l0, l1] [.int (mI m a 10)] m Q := A_getfield (f := fun m a => .int (mI m a 10)) hB_X12_minder dX12_minder_42 hO_X12_minder fF_12_257 rfl
theorem dX12_minder_45 : decode cX12_minder 45 = .ok (.iconst 1, 1) := by decide +kernel
theorem tX12_minder_45 {d : Nat} {l0 l1 : Option Value} {v0 : Value} {m : jmM} {Q : Option Value → jmM → Prop} : AW d 222 45 [l0, l1] [v0] m Q ↔ AW d 222 46 [l0, l1] [.int 1, v0] m Q := A_iconst hB_X12_minder dX12_minder_45 (by decide)
theorem dX12_minder_46 : decode cX12_minder 46 = .ok (.isub, 1) := by decide +kernel
theorem tX12_minder_46 {d : Nat} {l0 l1 : Option Value} {x y : Int32} {m : jmM} {Q : Option Value → jmM → Prop} : AW d 222 46 [l0, l1] [.int y, .int x] m Q ↔ AW d 222 47 [l0, l1] [.int (x - y)] m Q := A_isub hB_X12_minder dX12_minder_46
theorem dX12_minder_47 : decode cX12_minder 47 = .ok (.ireturn, 1) := by decide +kernel
theorem tX12_minder_47 {d : Nat} {l0 l1 : Option Value} {x : Int32} {m : jmM} {Q : Option Value → jmM → Prop} : AW d 222 47 [l0, l1] [.int x] m Q ↔ Q (some (.int x)) m := A_ireturn hB_X12_minder dX12_minder_47 hR_X12_minder
theorem hB_X12_push : jB 223 = cX12_push := rfl
theorem hO_X12_push : jO 223 = 12 := rfl
theorem hR_X12_push : jRt 223 = none := rfl
theorem nX12_push (d : Nat) (x0 : Nat) (x1 : Int64) (m : jmM) (Q : Option Value → jmM → Prop) : CC (d + 1) 223 [.ref x0, .long x1] m Q ↔ AW d 223 0 [some (.ref x0), some (.long x1), none] [] m Q := CC_body (Nat.le_of_ble_eq_true rfl)
theorem dX12_push_0 : decode cX12_push 0 = .ok (.aload_n 0, 1) := by decide +kernel
theorem tX12_push_0 {d : Nat} {l1 l2 : Option Value} {x : Nat} {m : jmM} {Q : Option Value → jmM → Prop} : AW d 223 0 [some (.ref x), l1, l2] [] m Q ↔ AW d 223 1 [some (.ref x), l1, l2] [.ref x] m Q := A_aload_n hB_X12_push dX12_push_0 rfl
theorem dX12_push_1 : decode cX12_push 1 = .ok (.getfield 38, 3) := by decide +kernel
theorem tX12_push_1 {d : Nat} {l0 l1 l2 : Option Value} {a : Nat} {m : jmM} {Q : Option Value → jmM → Prop} : AW d 223 1 [l0, l1, l2] [.ref a] m Q ↔ (mS m a).1 = 12 ∧ AW d 223 4 [l0, l1, l2] [va_rf (mR m a 20)] m Q := A_getfield (f := fun m a => va_rf (mR m a 20)) hB_X12_push dX12_push_1 hO_X12_push fF_12_38 rfl
theorem dX12_push_4 : decode cX12_push 4 = .ok (.aload_n 0, 1) := by decide +kernel
theorem tX12_push_4 {d : Nat} {l1 l2 : Option Value} {v0 : Value} {x : Nat} {m : jmM} {Q : Option Value → jmM → Prop} : AW d 223 4 [some (.ref x), l1, l2] [v0] m Q ↔ AW d 223 5 [some (.ref x), l1, l2] [.ref x, v0] m Q := A_aload_n hB_X12_push dX12_push_4 rfl
theorem dX12_push_5 : decode cX12_push 5 = .ok (.getfield 260, 3) := by decide +kernel
theorem tX12_push_5 {d : Nat} {l0 l1 l2 : Option Value} {v1 : Value} {a : Nat} {m : jmM} {Q : Option Value → jmM → Prop} : AW d 223 5 [l0, l1, l2] [.ref a, v1] m Q ↔ (mS m a).1 = 12 ∧ AW d 223 8 [l0, l1, l2] [.int (mI m a 21), v1] m Q := A_getfield (f := fun m a => .int (mI m a 21)) hB_X12_push dX12_push_5 hO_X12_push fF_12_260 rfl
theorem dX12_push_8 : decode cX12_push 8 = .ok (.lload_n 1, 1) := by decide +kernel
theorem tX12_push_8 {d : Nat} {l0 l2 : Option Value} {v0 v1 : Value} {x : Int64} {m : jmM} {Q : Option Value → jmM → Prop} : AW d 223 8 [l0, some (.long x), l2] [v0, v1] m Q ↔ AW d 223 9 [l0, some (.long x), l2] [.long x, v0, v1] m Q := A_lload_n hB_X12_push dX12_push_8 rfl
theorem dX12_push_9 : decode cX12_push 9 = .ok (.lastore, 1) := by decide +kernel
theorem tX12_push_9 {d : Nat} {l0 l1 l2 : Option Value} {x : Int64} {i : Int32} {a : Nat} {m : jmM} {Q : Option Value → jmM → Prop} : AW d 223 9 [l0, l1, l2] [.long x, .int i, .ref a] m Q ↔ ((mS m a).1 = 21 ∧ jIx i (mS m a).2) ∧ AW d 223 10 [l0, l1, l2] [] (cL m a (jup (mL m a) (jx i) x)) Q := A_lastore hB_X12_push dX12_push_9
theorem dX12_push_10 : decode cX12_push 10 = .ok (.aload_n 0, 1) := by decide +kernel
theorem tX12_push_10 {d : Nat} {l1 l2 : Option Value} {x : Nat} {m : jmM} {Q : Option Value → jmM → Prop} : AW d 223 10 [some (.ref x), l1, l2] [] m Q ↔ AW d 223 11 [some (.ref x), l1, l2] [.ref x] m Q := A_aload_n hB_X12_push dX12_push_10 rfl
theorem dX12_push_11 : decode cX12_push 11 = .ok (.dup, 1) := by decide +kernel
theorem tX12_push_11 {d : Nat} {l0 l1 l2 : Option Value} {x : Nat} {m : jmM} {Q : Option Value → jmM → Prop} : AW d 223 11 [l0, l1, l2] [.ref x] m Q ↔ AW d 223 12 [l0, l1, l2] [.ref x, .ref x] m Q := A_dup_a hB_X12_push dX12_push_11
theorem dX12_push_12 : decode cX12_push 12 = .ok (.getfield 260, 3) := by decide +kernel
theorem tX12_push_12 {d : Nat} {l0 l1 l2 : Option Value} {v1 : Value} {a : Nat} {m : jmM} {Q : Option Value → jmM → Prop} : AW d 223 12 [l0, l1, l2] [.ref a, v1] m Q ↔ (mS m a).1 = 12 ∧ AW d 223 15 [l0, l1, l2] [.int (mI m a 21), v1] m Q := A_getfield (f := fun m a => .int (mI m a 21)) hB_X12_push dX12_push_12 hO_X12_push fF_12_260 rfl
theorem dX12_push_15 : decode cX12_push 15 = .ok (.iconst 1, 1) := by decide +kernel
theorem tX12_push_15 {d : Nat} {l0 l1 l2 : Option Value} {v0 v1 : Value} {m : jmM} {Q : Option Value → jmM → Prop} : AW d 223 15 [l0, l1, l2] [v0, v1] m Q ↔ AW d 223 16 [l0, l1, l2] [.int 1, v0, v1] m Q := A_iconst hB_X12_push dX12_push_15 (by decide)
theorem dX12_push_16 : decode cX12_push 16 = .ok (.iadd, 1) := by decide +kernel
theorem tX12_push_16 {d : Nat} {l0 l1 l2 : Option Value} {v2 : Value} {x y : Int32} {m : jmM} {Q : Option Value → jmM → Prop} : AW d 223 16 [l0, l1, l2] [.int y, .int x, v2] m Q ↔ AW d 223 17 [l0, l1, l2] [.int (x + y), v2] m Q := A_iadd hB_X12_push dX12_push_16
theorem dX12_push_17 : decode cX12_push 17 = .ok (.putfield 260, 3) := by decide +kernel
theorem tX12_push_17 {d : Nat} {l0 l1 l2 : Option Value} {x : Int32} {a : Nat} {m : jmM} {Q : Option Value → jmM → Prop} : AW d 223 17 [l0, l1, l2] [.int x, .ref a] m Q ↔ (mS m a).1 = 12 ∧ AW d 223 20 [l0, l1, l2] [] (cI m a (jup (mI m a) 21 x)) Q := A_putI hB_X12_push dX12_push_17 hO_X12_push fF_12_260 rfl (fun h => Bool.noConfusion h)
theorem dX12_push_20 : decode cX12_push 20 = .ok (.return_, 1) := by decide +kernel
theorem tX12_push_20 {d : Nat} {l0 l1 l2 : Option Value} {m : jmM} {Q : Option Value → jmM → Prop} : AW d 223 20 [l0, l1, l2] [] m Q ↔ Q none m := A_return hB_X12_push dX12_push_20 hR_X12_push
theorem hB_X12_pop : jB 224 = cX12_pop := rfl
theorem hO_X12_pop : jO 224 = 12 := rfl
theorem hR_X12_pop : jRt 224 = (some .long) := rfl
theorem nX12_pop (d : Nat) (x0 : Nat) (m : jmM) (Q : Option Value → jmM → Prop) : CC (d + 1) 224 [.ref x0] m Q ↔ AW d 224 0 [some (.ref x0)] [] m Q := CC_body (Nat.le_of_ble_eq_true rfl)
theorem dX12_pop_0 : decode cX12_pop 0 = .ok (.aload_n 0, 1) := by decide +kernel
theorem tX12_pop_0 {d : Nat} {x : Nat} {m : jmM} {Q : Option Value → jmM → Prop} : AW d 224 0 [some (.ref x)] [] m Q ↔ AW d 224 1 [some (.ref x)] [.ref x] m Q := A_aload_n hB_X12_pop dX12_pop_0 rfl
theorem dX12_pop_1 : decode cX12_pop 1 = .ok (.dup, 1) := by decide +kernel
theorem tX12_pop_1 {d : Nat} {l0 : Option Value} {x : Nat} {m : jmM} {Q : Option Value → jmM → Prop} : AW d 224 1 [l0] [.ref x] m Q ↔ AW d 224 2 [l0] [.ref x, .ref x] m Q := A_dup_a hB_X12_pop dX12_pop_1
theorem dX12_pop_2 : decode cX12_pop 2 = .ok (.getfield 260, 3) := by decide +kernel
theorem tX12_pop_2 {d : Nat} {l0 : Option Value} {v1 : Value} {a : Nat} {m : jmM} {Q : Option Value → jmM → Prop} : AW d 224 2 [l0] [.ref a, v1] m Q ↔ (mS m a).1 = 12 ∧ AW d 224 5 [l0] [.int (mI m a 21), v1] m Q := A_getfield (f := fun m a => .int (mI m a 21)) hB_X12_pop dX12_pop_2 hO_X12_pop fF_12_260 rfl
theorem dX12_pop_5 : decode cX12_pop 5 = .ok (.iconst 1, 1) := by decide +kernel
theorem tX12_pop_5 {d : Nat} {l0 : Option Value} {v0 v1 : Value} {m : jmM} {Q : Option Value → jmM → Prop} : AW d 224 5 [l0] [v0, v1] m Q ↔ AW d 224 6 [l0] [.int 1, v0, v1] m Q := A_iconst hB_X12_pop dX12_pop_5 (by decide)
theorem dX12_pop_6 : decode cX12_pop 6 = .ok (.isub, 1) := by decide +kernel
theorem tX12_pop_6 {d : Nat} {l0 : Option Value} {v2 : Value} {x y : Int32} {m : jmM} {Q : Option Value → jmM → Prop} : AW d 224 6 [l0] [.int y, .int x, v2] m Q ↔ AW d 224 7 [l0] [.int (x - y), v2] m Q := A_isub hB_X12_pop dX12_pop_6
theorem dX12_pop_7 : decode cX12_pop 7 = .ok (.putfield 260, 3) := by decide +kernel
theorem tX12_pop_7 {d : Nat} {l0 : Option Value} {x : Int32} {a : Nat} {m : jmM} {Q : Option Value → jmM → Prop} : AW d 224 7 [l0] [.int x, .ref a] m Q ↔ (mS m a).1 = 12 ∧ AW d 224 10 [l0] [] (cI m a (jup (mI m a) 21 x)) Q := A_putI hB_X12_pop dX12_pop_7 hO_X12_pop fF_12_260 rfl (fun h => Bool.noConfusion h)
theorem dX12_pop_10 : decode cX12_pop 10 = .ok (.aload_n 0, 1) := by decide +kernel
theorem tX12_pop_10 {d : Nat} {x : Nat} {m : jmM} {Q : Option Value → jmM → Prop} : AW d 224 10 [some (.ref x)] [] m Q ↔ AW d 224 11 [some (.ref x)] [.ref x] m Q := A_aload_n hB_X12_pop dX12_pop_10 rfl
theorem dX12_pop_11 : decode cX12_pop 11 = .ok (.getfield 38, 3) := by decide +kernel
theorem tX12_pop_11 {d : Nat} {l0 : Option Value} {a : Nat} {m : jmM} {Q : Option Value → jmM → Prop} : AW d 224 11 [l0] [.ref a] m Q ↔ (mS m a).1 = 12 ∧ AW d 224 14 [l0] [va_rf (mR m a 20)] m Q := A_getfield (f := fun m a => va_rf (mR m a 20)) hB_X12_pop dX12_pop_11 hO_X12_pop fF_12_38 rfl
theorem dX12_pop_14 : decode cX12_pop 14 = .ok (.aload_n 0, 1) := by decide +kernel
theorem tX12_pop_14 {d : Nat} {v0 : Value} {x : Nat} {m : jmM} {Q : Option Value → jmM → Prop} : AW d 224 14 [some (.ref x)] [v0] m Q ↔ AW d 224 15 [some (.ref x)] [.ref x, v0] m Q := A_aload_n hB_X12_pop dX12_pop_14 rfl
theorem dX12_pop_15 : decode cX12_pop 15 = .ok (.getfield 260, 3) := by decide +kernel
theorem tX12_pop_15 {d : Nat} {l0 : Option Value} {v1 : Value} {a : Nat} {m : jmM} {Q : Option Value → jmM → Prop} : AW d 224 15 [l0] [.ref a, v1] m Q ↔ (mS m a).1 = 12 ∧ AW d 224 18 [l0] [.int (mI m a 21), v1] m Q := A_getfield (f := fun m a => .int (mI m a 21)) hB_X12_pop dX12_pop_15 hO_X12_pop fF_12_260 rfl
theorem dX12_pop_18 : decode cX12_pop 18 = .ok (.laload, 1) := by decide +kernel
theorem tX12_pop_18 {d : Nat} {l0 : Option Value} {i : Int32} {a : Nat} {m : jmM} {Q : Option Value → jmM → Prop} : AW d 224 18 [l0] [.int i, .ref a] m Q ↔ ((mS m a).1 = 21 ∧ jIx i (mS m a).2) ∧ AW d 224 19 [l0] [.long (mL m a (jx i))] m Q := A_laload hB_X12_pop dX12_pop_18
theorem dX12_pop_19 : decode cX12_pop 19 = .ok (.lreturn, 1) := by decide +kernel
theorem tX12_pop_19 {d : Nat} {l0 : Option Value} {x : Int64} {m : jmM} {Q : Option Value → jmM → Prop} : AW d 224 19 [l0] [.long x] m Q ↔ Q (some (.long x)) m := A_lreturn hB_X12_pop dX12_pop_19 hR_X12_pop
theorem hB_X12_one : jB 225 = cX12_one := rfl
theorem hO_X12_one : jO 225 = 12 := rfl
theorem hR_X12_one : jRt 225 = (some .long) := rfl
theorem nX12_one (d : Nat) (x0 : Int32) (x1 : Int64) (x2 : Int64) (m : jmM) (Q : Option Value → jmM → Prop) : CC (d + 1) 225 [.int x0, .long x1, .long x2] m Q ↔ AW d 225 0 [some (.int x0), some (.long x1), none, some (.long x2), none] [] m Q := CC_body (Nat.le_of_ble_eq_true rfl)
theorem dX12_one_0 : decode cX12_one 0 = .ok (.iload_n 0, 1) := by decide +kernel
theorem tX12_one_0 {d : Nat} {l1 l2 l3 l4 : Option Value} {x : Int32} {m : jmM} {Q : Option Value → jmM → Prop} : AW d 225 0 [some (.int x), l1, l2, l3, l4] [] m Q ↔ AW d 225 1 [some (.int x), l1, l2, l3, l4] [.int x] m Q := A_iload_n hB_X12_one dX12_one_0 rfl
theorem dX12_one_1 : decode cX12_one 1 = .ok (.tableswitch 149 2 12 #[59, 63, 67, 71, 85, 97, 109, 121, 133, 149, 145], 59) := by decide +kernel
theorem tX12_one_1 {d : Nat} {l0 l1 l2 l3 l4 : Option Value} {x : Int32} {m : jmM} {Q : Option Value → jmM → Prop} : AW d 225 1 [l0, l1, l2, l3, l4] [.int x] m Q ↔ if x = 2 then AW d 225 60 [l0, l1, l2, l3, l4] [] m Q else if x = 3 then AW d 225 64 [l0, l1, l2, l3, l4] [] m Q else if x = 4 then AW d 225 68 [l0, l1, l2, l3, l4] [] m Q else if x = 5 then AW d 225 72 [l0, l1, l2, l3, l4] [] m Q else if x = 6 then AW d 225 86 [l0, l1, l2, l3, l4] [] m Q else if x = 7 then AW d 225 98 [l0, l1, l2, l3, l4] [] m Q else if x = 8 then AW d 225 110 [l0, l1, l2, l3, l4] [] m Q else if x = 9 then AW d 225 122 [l0, l1, l2, l3, l4] [] m Q else if x = 10 then AW d 225 134 [l0, l1, l2, l3, l4] [] m Q else if x = 11 then AW d 225 150 [l0, l1, l2, l3, l4] [] m Q else if x = 12 then AW d 225 146 [l0, l1, l2, l3, l4] [] m Q else AW d 225 150 [l0, l1, l2, l3, l4] [] m Q := by
  by_cases h0 : x = 2
  · subst h0; rw [if_pos rfl]; exact A_switch hB_X12_one dX12_one_1 (by decide) (by decide)
  rw [if_neg h0]
  have e0 := i32_ne (n := 2) (by decide) h0
  by_cases h1 : x = 3
  · subst h1; rw [if_pos rfl]; exact A_switch hB_X12_one dX12_one_1 (by decide) (by decide)
  rw [if_neg h1]
  have e1 := i32_ne (n := 3) (by decide) h1
  by_cases h2 : x = 4
  · subst h2; rw [if_pos rfl]; exact A_switch hB_X12_one dX12_one_1 (by decide) (by decide)
  rw [if_neg h2]
  have e2 := i32_ne (n := 4) (by decide) h2
  by_cases h3 : x = 5
  · subst h3; rw [if_pos rfl]; exact A_switch hB_X12_one dX12_one_1 (by decide) (by decide)
  rw [if_neg h3]
  have e3 := i32_ne (n := 5) (by decide) h3
  by_cases h4 : x = 6
  · subst h4; rw [if_pos rfl]; exact A_switch hB_X12_one dX12_one_1 (by decide) (by decide)
  rw [if_neg h4]
  have e4 := i32_ne (n := 6) (by decide) h4
  by_cases h5 : x = 7
  · subst h5; rw [if_pos rfl]; exact A_switch hB_X12_one dX12_one_1 (by decide) (by decide)
  rw [if_neg h5]
  have e5 := i32_ne (n := 7) (by decide) h5
  by_cases h6 : x = 8
  · subst h6; rw [if_pos rfl]; exact A_switch hB_X12_one dX12_one_1 (by decide) (by decide)
  rw [if_neg h6]
  have e6 := i32_ne (n := 8) (by decide) h6
  by_cases h7 : x = 9
  · subst h7; rw [if_pos rfl]; exact A_switch hB_X12_one dX12_one_1 (by decide) (by decide)
  rw [if_neg h7]
  have e7 := i32_ne (n := 9) (by decide) h7
  by_cases h8 : x = 10
  · subst h8; rw [if_pos rfl]; exact A_switch hB_X12_one dX12_one_1 (by decide) (by decide)
  rw [if_neg h8]
  have e8 := i32_ne (n := 10) (by decide) h8
  by_cases h9 : x = 11
  · subst h9; rw [if_pos rfl]; exact A_switch hB_X12_one dX12_one_1 (by decide) (by decide)
  rw [if_neg h9]
  have e9 := i32_ne (n := 11) (by decide) h9
  by_cases h10 : x = 12
  · subst h10; rw [if_pos rfl]; exact A_switch hB_X12_one dX12_one_1 (by decide) (by decide)
  rw [if_neg h10]
  have e10 := i32_ne (n := 12) (by decide) h10
  exact A_switch hB_X12_one dX12_one_1 (t := 150) (by decide) (by unfold jsw; rw [if_pos (by omega)]; rfl)
theorem dX12_one_60 : decode cX12_one 60 = .ok (.lload_n 1, 1) := by decide +kernel
theorem tX12_one_60 {d : Nat} {l0 l2 l3 l4 : Option Value} {x : Int64} {m : jmM} {Q : Option Value → jmM → Prop} : AW d 225 60 [l0, some (.long x), l2, l3, l4] [] m Q ↔ AW d 225 61 [l0, some (.long x), l2, l3, l4] [.long x] m Q := A_lload_n hB_X12_one dX12_one_60 rfl
theorem dX12_one_61 : decode cX12_one 61 = .ok (.lload_n 3, 1) := by decide +kernel
theorem tX12_one_61 {d : Nat} {l0 l1 l2 l4 : Option Value} {v0 : Value} {x : Int64} {m : jmM} {Q : Option Value → jmM → Prop} : AW d 225 61 [l0, l1, l2, some (.long x), l4] [v0] m Q ↔ AW d 225 62 [l0, l1, l2, some (.long x), l4] [.long x, v0] m Q := A_lload_n hB_X12_one dX12_one_61 rfl
theorem dX12_one_62 : decode cX12_one 62 = .ok (.ladd, 1) := by decide +kernel
theorem tX12_one_62 {d : Nat} {l0 l1 l2 l3 l4 : Option Value} {x y : Int64} {m : jmM} {Q : Option Value → jmM → Prop} : AW d 225 62 [l0, l1, l2, l3, l4] [.long y, .long x] m Q ↔ AW d 225 63 [l0, l1, l2, l3, l4] [.long (x + y)] m Q := A_ladd hB_X12_one dX12_one_62
theorem dX12_one_63 : decode cX12_one 63 = .ok (.lreturn, 1) := by decide +kernel
theorem tX12_one_63 {d : Nat} {l0 l1 l2 l3 l4 : Option Value} {x : Int64} {m : jmM} {Q : Option Value → jmM → Prop} : AW d 225 63 [l0, l1, l2, l3, l4] [.long x] m Q ↔ Q (some (.long x)) m := A_lreturn hB_X12_one dX12_one_63 hR_X12_one
theorem dX12_one_64 : decode cX12_one 64 = .ok (.lload_n 1, 1) := by decide +kernel
theorem tX12_one_64 {d : Nat} {l0 l2 l3 l4 : Option Value} {x : Int64} {m : jmM} {Q : Option Value → jmM → Prop} : AW d 225 64 [l0, some (.long x), l2, l3, l4] [] m Q ↔ AW d 225 65 [l0, some (.long x), l2, l3, l4] [.long x] m Q := A_lload_n hB_X12_one dX12_one_64 rfl
theorem dX12_one_65 : decode cX12_one 65 = .ok (.lload_n 3, 1) := by decide +kernel
theorem tX12_one_65 {d : Nat} {l0 l1 l2 l4 : Option Value} {v0 : Value} {x : Int64} {m : jmM} {Q : Option Value → jmM → Prop} : AW d 225 65 [l0, l1, l2, some (.long x), l4] [v0] m Q ↔ AW d 225 66 [l0, l1, l2, some (.long x), l4] [.long x, v0] m Q := A_lload_n hB_X12_one dX12_one_65 rfl
theorem dX12_one_66 : decode cX12_one 66 = .ok (.lsub, 1) := by decide +kernel
theorem tX12_one_66 {d : Nat} {l0 l1 l2 l3 l4 : Option Value} {x y : Int64} {m : jmM} {Q : Option Value → jmM → Prop} : AW d 225 66 [l0, l1, l2, l3, l4] [.long y, .long x] m Q ↔ AW d 225 67 [l0, l1, l2, l3, l4] [.long (x - y)] m Q := A_lsub hB_X12_one dX12_one_66
theorem dX12_one_67 : decode cX12_one 67 = .ok (.lreturn, 1) := by decide +kernel
theorem tX12_one_67 {d : Nat} {l0 l1 l2 l3 l4 : Option Value} {x : Int64} {m : jmM} {Q : Option Value → jmM → Prop} : AW d 225 67 [l0, l1, l2, l3, l4] [.long x] m Q ↔ Q (some (.long x)) m := A_lreturn hB_X12_one dX12_one_67 hR_X12_one
theorem dX12_one_68 : decode cX12_one 68 = .ok (.lload_n 1, 1) := by decide +kernel
theorem tX12_one_68 {d : Nat} {l0 l2 l3 l4 : Option Value} {x : Int64} {m : jmM} {Q : Option Value → jmM → Prop} : AW d 225 68 [l0, some (.long x), l2, l3, l4] [] m Q ↔ AW d 225 69 [l0, some (.long x), l2, l3, l4] [.long x] m Q := A_lload_n hB_X12_one dX12_one_68 rfl
theorem dX12_one_69 : decode cX12_one 69 = .ok (.lload_n 3, 1) := by decide +kernel
theorem tX12_one_69 {d : Nat} {l0 l1 l2 l4 : Option Value} {v0 : Value} {x : Int64} {m : jmM} {Q : Option Value → jmM → Prop} : AW d 225 69 [l0, l1, l2, some (.long x), l4] [v0] m Q ↔ AW d 225 70 [l0, l1, l2, some (.long x), l4] [.long x, v0] m Q := A_lload_n hB_X12_one dX12_one_69 rfl
theorem dX12_one_70 : decode cX12_one 70 = .ok (.lmul, 1) := by decide +kernel
theorem tX12_one_70 {d : Nat} {l0 l1 l2 l3 l4 : Option Value} {x y : Int64} {m : jmM} {Q : Option Value → jmM → Prop} : AW d 225 70 [l0, l1, l2, l3, l4] [.long y, .long x] m Q ↔ AW d 225 71 [l0, l1, l2, l3, l4] [.long (x * y)] m Q := A_lmul hB_X12_one dX12_one_70
theorem dX12_one_71 : decode cX12_one 71 = .ok (.lreturn, 1) := by decide +kernel
theorem tX12_one_71 {d : Nat} {l0 l1 l2 l3 l4 : Option Value} {x : Int64} {m : jmM} {Q : Option Value → jmM → Prop} : AW d 225 71 [l0, l1, l2, l3, l4] [.long x] m Q ↔ Q (some (.long x)) m := A_lreturn hB_X12_one dX12_one_71 hR_X12_one
theorem dX12_one_72 : decode cX12_one 72 = .ok (.lload_n 3, 1) := by decide +kernel
theorem tX12_one_72 {d : Nat} {l0 l1 l2 l4 : Option Value} {x : Int64} {m : jmM} {Q : Option Value → jmM → Prop} : AW d 225 72 [l0, l1, l2, some (.long x), l4] [] m Q ↔ AW d 225 73 [l0, l1, l2, some (.long x), l4] [.long x] m Q := A_lload_n hB_X12_one dX12_one_72 rfl
theorem dX12_one_73 : decode cX12_one 73 = .ok (.lconst 0, 1) := by decide +kernel
theorem tX12_one_73 {d : Nat} {l0 l1 l2 l3 l4 : Option Value} {v0 : Value} {m : jmM} {Q : Option Value → jmM → Prop} : AW d 225 73 [l0, l1, l2, l3, l4] [v0] m Q ↔ AW d 225 74 [l0, l1, l2, l3, l4] [.long 0, v0] m Q := A_lconst hB_X12_one dX12_one_73 (by decide)
theorem dX12_one_74 : decode cX12_one 74 = .ok (.lcmp, 1) := by decide +kernel
theorem tX12_one_74 {d : Nat} {l0 l1 l2 l3 l4 : Option Value} {x y : Int64} {m : jmM} {Q : Option Value → jmM → Prop} : AW d 225 74 [l0, l1, l2, l3, l4] [.long y, .long x] m Q ↔ AW d 225 75 [l0, l1, l2, l3, l4] [.int (lg_cmp x y)] m Q := A_lcmp hB_X12_one dX12_one_74
theorem dX12_one_75 : decode cX12_one 75 = .ok (.ifCond .ne 7, 3) := by decide +kernel
theorem tX12_one_75 {d : Nat} {l0 l1 l2 l3 l4 : Option Value} {x : Int32} {m : jmM} {Q : Option Value → jmM → Prop} : AW d 225 75 [l0, l1, l2, l3, l4] [.int x] m Q ↔ if x = 0 then AW d 225 78 [l0, l1, l2, l3, l4] [] m Q else AW d 225 82 [l0, l1, l2, l3, l4] [] m Q := A_if_ne hB_X12_one dX12_one_75 (by decide)
theorem dX12_one_78 : decode cX12_one 78 = .ok (.lconst 0, 1) := by decide +kernel
theorem tX12_one_78 {d : Nat} {l0 l1 l2 l3 l4 : Option Value} {m : jmM} {Q : Option Value → jmM → Prop} : AW d 225 78 [l0, l1, l2, l3, l4] [] m Q ↔ AW d 225 79 [l0, l1, l2, l3, l4] [.long 0] m Q := A_lconst hB_X12_one dX12_one_78 (by decide)
theorem dX12_one_79 : decode cX12_one 79 = .ok (.goto 6, 3) := by decide +kernel
theorem tX12_one_79 {d : Nat} {l0 l1 l2 l3 l4 : Option Value} {v0 : Value} {m : jmM} {Q : Option Value → jmM → Prop} : AW d 225 79 [l0, l1, l2, l3, l4] [v0] m Q ↔ AW d 225 85 [l0, l1, l2, l3, l4] [v0] m Q := A_goto hB_X12_one dX12_one_79 (by decide)
theorem dX12_one_82 : decode cX12_one 82 = .ok (.lload_n 1, 1) := by decide +kernel
theorem tX12_one_82 {d : Nat} {l0 l2 l3 l4 : Option Value} {x : Int64} {m : jmM} {Q : Option Value → jmM → Prop} : AW d 225 82 [l0, some (.long x), l2, l3, l4] [] m Q ↔ AW d 225 83 [l0, some (.long x), l2, l3, l4] [.long x] m Q := A_lload_n hB_X12_one dX12_one_82 rfl
theorem dX12_one_83 : decode cX12_one 83 = .ok (.lload_n 3, 1) := by decide +kernel
theorem tX12_one_83 {d : Nat} {l0 l1 l2 l4 : Option Value} {v0 : Value} {x : Int64} {m : jmM} {Q : Option Value → jmM → Prop} : AW d 225 83 [l0, l1, l2, some (.long x), l4] [v0] m Q ↔ AW d 225 84 [l0, l1, l2, some (.long x), l4] [.long x, v0] m Q := A_lload_n hB_X12_one dX12_one_83 rfl
theorem dX12_one_84 : decode cX12_one 84 = .ok (.ldiv, 1) := by decide +kernel
theorem tX12_one_84 {d : Nat} {l0 l1 l2 l3 l4 : Option Value} {x y : Int64} {m : jmM} {Q : Option Value → jmM → Prop} : AW d 225 84 [l0, l1, l2, l3, l4] [.long y, .long x] m Q ↔ ¬ y = 0 ∧ AW d 225 85 [l0, l1, l2, l3, l4] [.long (x / y)] m Q := A_ldiv hB_X12_one dX12_one_84
theorem dX12_one_85 : decode cX12_one 85 = .ok (.lreturn, 1) := by decide +kernel
theorem tX12_one_85 {d : Nat} {l0 l1 l2 l3 l4 : Option Value} {x : Int64} {m : jmM} {Q : Option Value → jmM → Prop} : AW d 225 85 [l0, l1, l2, l3, l4] [.long x] m Q ↔ Q (some (.long x)) m := A_lreturn hB_X12_one dX12_one_85 hR_X12_one
theorem dX12_one_86 : decode cX12_one 86 = .ok (.lload_n 1, 1) := by decide +kernel
theorem tX12_one_86 {d : Nat} {l0 l2 l3 l4 : Option Value} {x : Int64} {m : jmM} {Q : Option Value → jmM → Prop} : AW d 225 86 [l0, some (.long x), l2, l3, l4] [] m Q ↔ AW d 225 87 [l0, some (.long x), l2, l3, l4] [.long x] m Q := A_lload_n hB_X12_one dX12_one_86 rfl
theorem dX12_one_87 : decode cX12_one 87 = .ok (.lload_n 3, 1) := by decide +kernel
theorem tX12_one_87 {d : Nat} {l0 l1 l2 l4 : Option Value} {v0 : Value} {x : Int64} {m : jmM} {Q : Option Value → jmM → Prop} : AW d 225 87 [l0, l1, l2, some (.long x), l4] [v0] m Q ↔ AW d 225 88 [l0, l1, l2, some (.long x), l4] [.long x, v0] m Q := A_lload_n hB_X12_one dX12_one_87 rfl
theorem dX12_one_88 : decode cX12_one 88 = .ok (.lcmp, 1) := by decide +kernel
theorem tX12_one_88 {d : Nat} {l0 l1 l2 l3 l4 : Option Value} {x y : Int64} {m : jmM} {Q : Option Value → jmM → Prop} : AW d 225 88 [l0, l1, l2, l3, l4] [.long y, .long x] m Q ↔ AW d 225 89 [l0, l1, l2, l3, l4] [.int (lg_cmp x y)] m Q := A_lcmp hB_X12_one dX12_one_88
theorem dX12_one_89 : decode cX12_one 89 = .ok (.ifCond .ge 7, 3) := by decide +kernel
theorem tX12_one_89 {d : Nat} {l0 l1 l2 l3 l4 : Option Value} {x : Int32} {m : jmM} {Q : Option Value → jmM → Prop} : AW d 225 89 [l0, l1, l2, l3, l4] [.int x] m Q ↔ if 0 ≤ x then AW d 225 96 [l0, l1, l2, l3, l4] [] m Q else AW d 225 92 [l0, l1, l2, l3, l4] [] m Q := A_if_ge hB_X12_one dX12_one_89 (by decide)
theorem dX12_one_92 : decode cX12_one 92 = .ok (.lconst 1, 1) := by decide +kernel
theorem tX12_one_92 {d : Nat} {l0 l1 l2 l3 l4 : Option Value} {m : jmM} {Q : Option Value → jmM → Prop} : AW d 225 92 [l0, l1, l2, l3, l4] [] m Q ↔ AW d 225 93 [l0, l1, l2, l3, l4] [.long 1] m Q := A_lconst hB_X12_one dX12_one_92 (by decide)
theorem dX12_one_93 : decode cX12_one 93 = .ok (.goto 4, 3) := by decide +kernel
theorem tX12_one_93 {d : Nat} {l0 l1 l2 l3 l4 : Option Value} {v0 : Value} {m : jmM} {Q : Option Value → jmM → Prop} : AW d 225 93 [l0, l1, l2, l3, l4] [v0] m Q ↔ AW d 225 97 [l0, l1, l2, l3, l4] [v0] m Q := A_goto hB_X12_one dX12_one_93 (by decide)
theorem dX12_one_96 : decode cX12_one 96 = .ok (.lconst 0, 1) := by decide +kernel
theorem tX12_one_96 {d : Nat} {l0 l1 l2 l3 l4 : Option Value} {m : jmM} {Q : Option Value → jmM → Prop} : AW d 225 96 [l0, l1, l2, l3, l4] [] m Q ↔ AW d 225 97 [l0, l1, l2, l3, l4] [.long 0] m Q := A_lconst hB_X12_one dX12_one_96 (by decide)
theorem dX12_one_97 : decode cX12_one 97 = .ok (.lreturn, 1) := by decide +kernel
theorem tX12_one_97 {d : Nat} {l0 l1 l2 l3 l4 : Option Value} {x : Int64} {m : jmM} {Q : Option Value → jmM → Prop} : AW d 225 97 [l0, l1, l2, l3, l4] [.long x] m Q ↔ Q (some (.long x)) m := A_lreturn hB_X12_one dX12_one_97 hR_X12_one
theorem dX12_one_98 : decode cX12_one 98 = .ok (.lload_n 1, 1) := by decide +kernel
theorem tX12_one_98 {d : Nat} {l0 l2 l3 l4 : Option Value} {x : Int64} {m : jmM} {Q : Option Value → jmM → Prop} : AW d 225 98 [l0, some (.long x), l2, l3, l4] [] m Q ↔ AW d 225 99 [l0, some (.long x), l2, l3, l4] [.long x] m Q := A_lload_n hB_X12_one dX12_one_98 rfl
theorem dX12_one_99 : decode cX12_one 99 = .ok (.lload_n 3, 1) := by decide +kernel
theorem tX12_one_99 {d : Nat} {l0 l1 l2 l4 : Option Value} {v0 : Value} {x : Int64} {m : jmM} {Q : Option Value → jmM → Prop} : AW d 225 99 [l0, l1, l2, some (.long x), l4] [v0] m Q ↔ AW d 225 100 [l0, l1, l2, some (.long x), l4] [.long x, v0] m Q := A_lload_n hB_X12_one dX12_one_99 rfl
theorem dX12_one_100 : decode cX12_one 100 = .ok (.lcmp, 1) := by decide +kernel
theorem tX12_one_100 {d : Nat} {l0 l1 l2 l3 l4 : Option Value} {x y : Int64} {m : jmM} {Q : Option Value → jmM → Prop} : AW d 225 100 [l0, l1, l2, l3, l4] [.long y, .long x] m Q ↔ AW d 225 101 [l0, l1, l2, l3, l4] [.int (lg_cmp x y)] m Q := A_lcmp hB_X12_one dX12_one_100
theorem dX12_one_101 : decode cX12_one 101 = .ok (.ifCond .gt 7, 3) := by decide +kernel
theorem tX12_one_101 {d : Nat} {l0 l1 l2 l3 l4 : Option Value} {x : Int32} {m : jmM} {Q : Option Value → jmM → Prop} : AW d 225 101 [l0, l1, l2, l3, l4] [.int x] m Q ↔ if 0 < x then AW d 225 108 [l0, l1, l2, l3, l4] [] m Q else AW d 225 104 [l0, l1, l2, l3, l4] [] m Q := A_if_gt hB_X12_one dX12_one_101 (by decide)
theorem dX12_one_104 : decode cX12_one 104 = .ok (.lconst 1, 1) := by decide +kernel
theorem tX12_one_104 {d : Nat} {l0 l1 l2 l3 l4 : Option Value} {m : jmM} {Q : Option Value → jmM → Prop} : AW d 225 104 [l0, l1, l2, l3, l4] [] m Q ↔ AW d 225 105 [l0, l1, l2, l3, l4] [.long 1] m Q := A_lconst hB_X12_one dX12_one_104 (by decide)
theorem dX12_one_105 : decode cX12_one 105 = .ok (.goto 4, 3) := by decide +kernel
theorem tX12_one_105 {d : Nat} {l0 l1 l2 l3 l4 : Option Value} {v0 : Value} {m : jmM} {Q : Option Value → jmM → Prop} : AW d 225 105 [l0, l1, l2, l3, l4] [v0] m Q ↔ AW d 225 109 [l0, l1, l2, l3, l4] [v0] m Q := A_goto hB_X12_one dX12_one_105 (by decide)
theorem dX12_one_108 : decode cX12_one 108 = .ok (.lconst 0, 1) := by decide +kernel
theorem tX12_one_108 {d : Nat} {l0 l1 l2 l3 l4 : Option Value} {m : jmM} {Q : Option Value → jmM → Prop} : AW d 225 108 [l0, l1, l2, l3, l4] [] m Q ↔ AW d 225 109 [l0, l1, l2, l3, l4] [.long 0] m Q := A_lconst hB_X12_one dX12_one_108 (by decide)
theorem dX12_one_109 : decode cX12_one 109 = .ok (.lreturn, 1) := by decide +kernel
theorem tX12_one_109 {d : Nat} {l0 l1 l2 l3 l4 : Option Value} {x : Int64} {m : jmM} {Q : Option Value → jmM → Prop} : AW d 225 109 [l0, l1, l2, l3, l4] [.long x] m Q ↔ Q (some (.long x)) m := A_lreturn hB_X12_one dX12_one_109 hR_X12_one
theorem dX12_one_110 : decode cX12_one 110 = .ok (.lload_n 1, 1) := by decide +kernel
theorem tX12_one_110 {d : Nat} {l0 l2 l3 l4 : Option Value} {x : Int64} {m : jmM} {Q : Option Value → jmM → Prop} : AW d 225 110 [l0, some (.long x), l2, l3, l4] [] m Q ↔ AW d 225 111 [l0, some (.long x), l2, l3, l4] [.long x] m Q := A_lload_n hB_X12_one dX12_one_110 rfl
theorem dX12_one_111 : decode cX12_one 111 = .ok (.lload_n 3, 1) := by decide +kernel
theorem tX12_one_111 {d : Nat} {l0 l1 l2 l4 : Option Value} {v0 : Value} {x : Int64} {m : jmM} {Q : Option Value → jmM → Prop} : AW d 225 111 [l0, l1, l2, some (.long x), l4] [v0] m Q ↔ AW d 225 112 [l0, l1, l2, some (.long x), l4] [.long x, v0] m Q := A_lload_n hB_X12_one dX12_one_111 rfl
theorem dX12_one_112 : decode cX12_one 112 = .ok (.lcmp, 1) := by decide +kernel
theorem tX12_one_112 {d : Nat} {l0 l1 l2 l3 l4 : Option Value} {x y : Int64} {m : jmM} {Q : Option Value → jmM → Prop} : AW d 225 112 [l0, l1, l2, l3, l4] [.long y, .long x] m Q ↔ AW d 225 113 [l0, l1, l2, l3, l4] [.int (lg_cmp x y)] m Q := A_lcmp hB_X12_one dX12_one_112
theorem dX12_one_113 : decode cX12_one 113 = .ok (.ifCond .ne 7, 3) := by decide +kernel
theorem tX12_one_113 {d : Nat} {l0 l1 l2 l3 l4 : Option Value} {x : Int32} {m : jmM} {Q : Option Value → jmM → Prop} : AW d 225 113 [l0, l1, l2, l3, l4] [.int x] m Q ↔ if x = 0 then AW d 225 116 [l0, l1, l2, l3, l4] [] m Q else AW d 225 120 [l0, l1, l2, l3, l4] [] m Q := A_if_ne hB_X12_one dX12_one_113 (by decide)
theorem dX12_one_116 : decode cX12_one 116 = .ok (.lconst 1, 1) := by decide +kernel
theorem tX12_one_116 {d : Nat} {l0 l1 l2 l3 l4 : Option Value} {m : jmM} {Q : Option Value → jmM → Prop} : AW d 225 116 [l0, l1, l2, l3, l4] [] m Q ↔ AW d 225 117 [l0, l1, l2, l3, l4] [.long 1] m Q := A_lconst hB_X12_one dX12_one_116 (by decide)
theorem dX12_one_117 : decode cX12_one 117 = .ok (.goto 4, 3) := by decide +kernel
theorem tX12_one_117 {d : Nat} {l0 l1 l2 l3 l4 : Option Value} {v0 : Value} {m : jmM} {Q : Option Value → jmM → Prop} : AW d 225 117 [l0, l1, l2, l3, l4] [v0] m Q ↔ AW d 225 121 [l0, l1, l2, l3, l4] [v0] m Q := A_goto hB_X12_one dX12_one_117 (by decide)
theorem dX12_one_120 : decode cX12_one 120 = .ok (.lconst 0, 1) := by decide +kernel
theorem tX12_one_120 {d : Nat} {l0 l1 l2 l3 l4 : Option Value} {m : jmM} {Q : Option Value → jmM → Prop} : AW d 225 120 [l0, l1, l2, l3, l4] [] m Q ↔ AW d 225 121 [l0, l1, l2, l3, l4] [.long 0] m Q := A_lconst hB_X12_one dX12_one_120 (by decide)
theorem dX12_one_121 : decode cX12_one 121 = .ok (.lreturn, 1) := by decide +kernel
theorem tX12_one_121 {d : Nat} {l0 l1 l2 l3 l4 : Option Value} {x : Int64} {m : jmM} {Q : Option Value → jmM → Prop} : AW d 225 121 [l0, l1, l2, l3, l4] [.long x] m Q ↔ Q (some (.long x)) m := A_lreturn hB_X12_one dX12_one_121 hR_X12_one
theorem dX12_one_122 : decode cX12_one 122 = .ok (.lload_n 1, 1) := by decide +kernel
theorem tX12_one_122 {d : Nat} {l0 l2 l3 l4 : Option Value} {x : Int64} {m : jmM} {Q : Option Value → jmM → Prop} : AW d 225 122 [l0, some (.long x), l2, l3, l4] [] m Q ↔ AW d 225 123 [l0, some (.long x), l2, l3, l4] [.long x] m Q := A_lload_n hB_X12_one dX12_one_122 rfl
theorem dX12_one_123 : decode cX12_one 123 = .ok (.lload_n 3, 1) := by decide +kernel
theorem tX12_one_123 {d : Nat} {l0 l1 l2 l4 : Option Value} {v0 : Value} {x : Int64} {m : jmM} {Q : Option Value → jmM → Prop} : AW d 225 123 [l0, l1, l2, some (.long x), l4] [v0] m Q ↔ AW d 225 124 [l0, l1, l2, some (.long x), l4] [.long x, v0] m Q := A_lload_n hB_X12_one dX12_one_123 rfl
theorem dX12_one_124 : decode cX12_one 124 = .ok (.lcmp, 1) := by decide +kernel
theorem tX12_one_124 {d : Nat} {l0 l1 l2 l3 l4 : Option Value} {x y : Int64} {m : jmM} {Q : Option Value → jmM → Prop} : AW d 225 124 [l0, l1, l2, l3, l4] [.long y, .long x] m Q ↔ AW d 225 125 [l0, l1, l2, l3, l4] [.int (lg_cmp x y)] m Q := A_lcmp hB_X12_one dX12_one_124
theorem dX12_one_125 : decode cX12_one 125 = .ok (.ifCond .lt 7, 3) := by decide +kernel
theorem tX12_one_125 {d : Nat} {l0 l1 l2 l3 l4 : Option Value} {x : Int32} {m : jmM} {Q : Option Value → jmM → Prop} : AW d 225 125 [l0, l1, l2, l3, l4] [.int x] m Q ↔ if x < 0 then AW d 225 132 [l0, l1, l2, l3, l4] [] m Q else AW d 225 128 [l0, l1, l2, l3, l4] [] m Q := A_if_lt hB_X12_one dX12_one_125 (by decide)
theorem dX12_one_128 : decode cX12_one 128 = .ok (.lconst 1, 1) := by decide +kernel
theorem tX12_one_128 {d : Nat} {l0 l1 l2 l3 l4 : Option Value} {m : jmM} {Q : Option Value → jmM → Prop} : AW d 225 128 [l0, l1, l2, l3, l4] [] m Q ↔ AW d 225 129 [l0, l1, l2, l3, l4] [.long 1] m Q := A_lconst hB_X12_one dX12_one_128 (by decide)
theorem dX12_one_129 : decode cX12_one 129 = .ok (.goto 4, 3) := by decide +kernel
theorem tX12_one_129 {d : Nat} {l0 l1 l2 l3 l4 : Option Value} {v0 : Value} {m : jmM} {Q : Option Value → jmM → Prop} : AW d 225 129 [l0, l1, l2, l3, l4] [v0] m Q ↔ AW d 225 133 [l0, l1, l2, l3, l4] [v0] m Q := A_goto hB_X12_one dX12_one_129 (by decide)
theorem dX12_one_132 : decode cX12_one 132 = .ok (.lconst 0, 1) := by decide +kernel
theorem tX12_one_132 {d : Nat} {l0 l1 l2 l3 l4 : Option Value} {m : jmM} {Q : Option Value → jmM → Prop} : AW d 225 132 [l0, l1, l2, l3, l4] [] m Q ↔ AW d 225 133 [l0, l1, l2, l3, l4] [.long 0] m Q := A_lconst hB_X12_one dX12_one_132 (by decide)
theorem dX12_one_133 : decode cX12_one 133 = .ok (.lreturn, 1) := by decide +kernel
theorem tX12_one_133 {d : Nat} {l0 l1 l2 l3 l4 : Option Value} {x : Int64} {m : jmM} {Q : Option Value → jmM → Prop} : AW d 225 133 [l0, l1, l2, l3, l4] [.long x] m Q ↔ Q (some (.long x)) m := A_lreturn hB_X12_one dX12_one_133 hR_X12_one
theorem dX12_one_134 : decode cX12_one 134 = .ok (.lload_n 1, 1) := by decide +kernel
theorem tX12_one_134 {d : Nat} {l0 l2 l3 l4 : Option Value} {x : Int64} {m : jmM} {Q : Option Value → jmM → Prop} : AW d 225 134 [l0, some (.long x), l2, l3, l4] [] m Q ↔ AW d 225 135 [l0, some (.long x), l2, l3, l4] [.long x] m Q := A_lload_n hB_X12_one dX12_one_134 rfl
theorem dX12_one_135 : decode cX12_one 135 = .ok (.lload_n 3, 1) := by decide +kernel
theorem tX12_one_135 {d : Nat} {l0 l1 l2 l4 : Option Value} {v0 : Value} {x : Int64} {m : jmM} {Q : Option Value → jmM → Prop} : AW d 225 135 [l0, l1, l2, some (.long x), l4] [v0] m Q ↔ AW d 225 136 [l0, l1, l2, some (.long x), l4] [.long x, v0] m Q := A_lload_n hB_X12_one dX12_one_135 rfl
theorem dX12_one_136 : decode cX12_one 136 = .ok (.lcmp, 1) := by decide +kernel
theorem tX12_one_136 {d : Nat} {l0 l1 l2 l3 l4 : Option Value} {x y : Int64} {m : jmM} {Q : Option Value → jmM → Prop} : AW d 225 136 [l0, l1, l2, l3, l4] [.long y, .long x] m Q ↔ AW d 225 137 [l0, l1, l2, l3, l4] [.int (lg_cmp x y)] m Q := A_lcmp hB_X12_one dX12_one_136
theorem dX12_one_137 : decode cX12_one 137 = .ok (.ifCond .le 7, 3) := by decide +kernel
theorem tX12_one_137 {d : Nat} {l0 l1 l2 l3 l4 : Option Value} {x : Int32} {m : jmM} {Q : Option Value → jmM → Prop} : AW d 225 137 [l0, l1, l2, l3, l4] [.int x] m Q ↔ if x ≤ 0 then AW d 225 144 [l0, l1, l2, l3, l4] [] m Q else AW d 225 140 [l0, l1, l2, l3, l4] [] m Q := A_if_le hB_X12_one dX12_one_137 (by decide)
theorem dX12_one_140 : decode cX12_one 140 = .ok (.lconst 1, 1) := by decide +kernel
theorem tX12_one_140 {d : Nat} {l0 l1 l2 l3 l4 : Option Value} {m : jmM} {Q : Option Value → jmM → Prop} : AW d 225 140 [l0, l1, l2, l3, l4] [] m Q ↔ AW d 225 141 [l0, l1, l2, l3, l4] [.long 1] m Q := A_lconst hB_X12_one dX12_one_140 (by decide)
theorem dX12_one_141 : decode cX12_one 141 = .ok (.goto 4, 3) := by decide +kernel
theorem tX12_one_141 {d : Nat} {l0 l1 l2 l3 l4 : Option Value} {v0 : Value} {m : jmM} {Q : Option Value → jmM → Prop} : AW d 225 141 [l0, l1, l2, l3, l4] [v0] m Q ↔ AW d 225 145 [l0, l1, l2, l3, l4] [v0] m Q := A_goto hB_X12_one dX12_one_141 (by decide)
theorem dX12_one_144 : decode cX12_one 144 = .ok (.lconst 0, 1) := by decide +kernel
theorem tX12_one_144 {d : Nat} {l0 l1 l2 l3 l4 : Option Value} {m : jmM} {Q : Option Value → jmM → Prop} : AW d 225 144 [l0, l1, l2, l3, l4] [] m Q ↔ AW d 225 145 [l0, l1, l2, l3, l4] [.long 0] m Q := A_lconst hB_X12_one dX12_one_144 (by decide)
theorem dX12_one_145 : decode cX12_one 145 = .ok (.lreturn, 1) := by decide +kernel
theorem tX12_one_145 {d : Nat} {l0 l1 l2 l3 l4 : Option Value} {x : Int64} {m : jmM} {Q : Option Value → jmM → Prop} : AW d 225 145 [l0, l1, l2, l3, l4] [.long x] m Q ↔ Q (some (.long x)) m := A_lreturn hB_X12_one dX12_one_145 hR_X12_one
theorem dX12_one_146 : decode cX12_one 146 = .ok (.lload_n 1, 1) := by decide +kernel
theorem tX12_one_146 {d : Nat} {l0 l2 l3 l4 : Option Value} {x : Int64} {m : jmM} {Q : Option Value → jmM → Prop} : AW d 225 146 [l0, some (.long x), l2, l3, l4] [] m Q ↔ AW d 225 147 [l0, some (.long x), l2, l3, l4] [.long x] m Q := A_lload_n hB_X12_one dX12_one_146 rfl
theorem dX12_one_147 : decode cX12_one 147 = .ok (.lload_n 3, 1) := by decide +kernel
theorem tX12_one_147 {d : Nat} {l0 l1 l2 l4 : Option Value} {v0 : Value} {x : Int64} {m : jmM} {Q : Option Value → jmM → Prop} : AW d 225 147 [l0, l1, l2, some (.long x), l4] [v0] m Q ↔ AW d 225 148 [l0, l1, l2, some (.long x), l4] [.long x, v0] m Q := A_lload_n hB_X12_one dX12_one_147 rfl
theorem dX12_one_148 : decode cX12_one 148 = .ok (.land, 1) := by decide +kernel
theorem tX12_one_148 {d : Nat} {l0 l1 l2 l3 l4 : Option Value} {x y : Int64} {m : jmM} {Q : Option Value → jmM → Prop} : AW d 225 148 [l0, l1, l2, l3, l4] [.long y, .long x] m Q ↔ AW d 225 149 [l0, l1, l2, l3, l4] [.long (x &&& y)] m Q := A_land hB_X12_one dX12_one_148
theorem dX12_one_149 : decode cX12_one 149 = .ok (.lreturn, 1) := by decide +kernel
theorem tX12_one_149 {d : Nat} {l0 l1 l2 l3 l4 : Option Value} {x : Int64} {m : jmM} {Q : Option Value → jmM → Prop} : AW d 225 149 [l0, l1, l2, l3, l4] [.long x] m Q ↔ Q (some (.long x)) m := A_lreturn hB_X12_one dX12_one_149 hR_X12_one
theorem dX12_one_150 : decode cX12_one 150 = .ok (.lload_n 1, 1) := by decide +kernel
theorem tX12_one_150 {d : Nat} {l0 l2 l3 l4 : Option Value} {x : Int64} {m : jmM} {Q : Option Value → jmM → Prop} : AW d 225 150 [l0, some (.long x), l2, l3, l4] [] m Q ↔ AW d 225 151 [l0, some (.long x), l2, l3, l4] [.long x] m Q := A_lload_n hB_X12_one dX12_one_150 rfl
theorem dX12_one_151 : decode cX12_one 151 = .ok (.lload_n 3, 1) := by decide +kernel
theorem tX12_one_151 {d : Nat} {l0 l1 l2 l4 : Option Value} {v0 : Value} {x : Int64} {m : jmM} {Q : Option Value → jmM → Prop} : AW d 225 151 [l0, l1, l2, some (.long x), l4] [v0] m Q ↔ AW d 225 152 [l0, l1, l2, some (.long x), l4] [.long x, v0] m Q := A_lload_n hB_X12_one dX12_one_151 rfl
theorem dX12_one_152 : decode cX12_one 152 = .ok (.lor, 1) := by decide +kernel
theorem tX12_one_152 {d : Nat} {l0 l1 l2 l3 l4 : Option Value} {x y : Int64} {m : jmM} {Q : Option Value → jmM → Prop} : AW d 225 152 [l0, l1, l2, l3, l4] [.long y, .long x] m Q ↔ AW d 225 153 [l0, l1, l2, l3, l4] [.long (x ||| y)] m Q := A_lor hB_X12_one dX12_one_152
theorem dX12_one_153 : decode cX12_one 153 = .ok (.lreturn, 1) := by decide +kernel
theorem tX12_one_153 {d : Nat} {l0 l1 l2 l3 l4 : Option Value} {x : Int64} {m : jmM} {Q : Option Value → jmM → Prop} : AW d 225 153 [l0, l1, l2, l3, l4] [.long x] m Q ↔ Q (some (.long x)) m := A_lreturn hB_X12_one dX12_one_153 hR_X12_one
theorem hB_X12_reckons : jB 226 = cX12_reckons := rfl
theorem hO_X12_reckons : jO 226 = 12 := rfl
theorem hR_X12_reckons : jRt 226 = (some .long) := rfl
theorem nX12_reckons (d : Nat) (x0 : Nat) (x1 : Int32) (x2 : Int32) (x3 : Int32) (m : jmM) (Q : Option Value → jmM → Prop) : CC (d + 1) 226 [.ref x0, .int x1, .int x2, .int x3] m Q ↔ AW d 226 0 [some (.ref x0), some (.int x1), some (.int x2), some (.int x3), none, none, none, none, none, none, none] [] m Q := CC_body (Nat.le_of_ble_eq_true rfl)
theorem dX12_reckons_0 : decode cX12_reckons 0 = .ok (.aload_n 0, 1) := by decide +kernel
theorem tX12_reckons_0 {d : Nat} {l1 l2 l3 l4 l5 l6 l7 l8 l9 l10 : Option Value} {x : Nat} {m : jmM} {Q : Option Value → jmM → Prop} : AW d 226 0 [some (.ref x), l1, l2, l3, l4, l5, l6, l7, l8, l9, l10] [] m Q ↔ AW d 226 1 [some (.ref x), l1, l2, l3, l4, l5, l6, l7, l8, l9, l10] [.ref x] m Q := A_aload_n hB_X12_reckons dX12_reckons_0 rfl
theorem dX12_reckons_1 : decode cX12_reckons 1 = .ok (.iconst 0, 1) := by decide +kernel
theorem tX12_reckons_1 {d : Nat} {l0 l1 l2 l3 l4 l5 l6 l7 l8 l9 l10 : Option Value} {v0 : Value} {m : jmM} {Q : Option Value → jmM → Prop} : AW d 226 1 [l0, l1, l2, l3, l4, l5, l6, l7, l8, l9, l10] [v0] m Q ↔ AW d 226 2 [l0, l1, l2, l3, l4, l5, l6, l7, l8, l9, l10] [.int 0, v0] m Q := A_iconst hB_X12_reckons dX12_reckons_1 (by decide)
theorem dX12_reckons_2 : decode cX12_reckons 2 = .ok (.putfield 260, 3) := by decide +kernel
theorem tX12_reckons_2 {d : Nat} {l0 l1 l2 l3 l4 l5 l6 l7 l8 l9 l10 : Option Value} {x : Int32} {a : Nat} {m : jmM} {Q : Option Value → jmM → Prop} : AW d 226 2 [l0, l1, l2, l3, l4, l5, l6, l7, l8, l9, l10] [.int x, .ref a] m Q ↔ (mS m a).1 = 12 ∧ AW d 226 5 [l0, l1, l2, l3, l4, l5, l6, l7, l8, l9, l10] [] (cI m a (jup (mI m a) 21 x)) Q := A_putI hB_X12_reckons dX12_reckons_2 hO_X12_reckons fF_12_260 rfl (fun h => Bool.noConfusion h)
theorem dX12_reckons_5 : decode cX12_reckons 5 = .ok (.iload_n 2, 1) := by decide +kernel
theorem tX12_reckons_5 {d : Nat} {l0 l1 l3 l4 l5 l6 l7 l8 l9 l10 : Option Value} {x : Int32} {m : jmM} {Q : Option Value → jmM → Prop} : AW d 226 5 [l0, l1, some (.int x), l3, l4, l5, l6, l7, l8, l9, l10] [] m Q ↔ AW d 226 6 [l0, l1, some (.int x), l3, l4, l5, l6, l7, l8, l9, l10] [.int x] m Q := A_iload_n hB_X12_reckons dX12_reckons_5 rfl
theorem dX12_reckons_6 : decode cX12_reckons 6 = .ok (.istore 4, 2) := by decide +kernel
theorem tX12_reckons_6 {d : Nat} {l0 l1 l2 l3 l4 l5 l6 l7 l8 l9 l10 : Option Value} {x : Int32} {m : jmM} {Q : Option Value → jmM → Prop} : AW d 226 6 [l0, l1, l2, l3, l4, l5, l6, l7, l8, l9, l10] [.int x] m Q ↔ AW d 226 8 [l0, l1, l2, jc1 l3, some (.int x), l5, l6, l7, l8, l9, l10] [] m Q := A_istore hB_X12_reckons dX12_reckons_6 (Nat.le_of_ble_eq_true rfl) rfl
theorem dX12_reckons_8 : decode cX12_reckons 8 = .ok (.iload 4, 2) := by decide +kernel
theorem tX12_reckons_8 {d : Nat} {l0 l1 l2 l3 l5 l6 l7 l8 l9 l10 : Option Value} {x : Int32} {m : jmM} {Q : Option Value → jmM → Prop} : AW d 226 8 [l0, l1, l2, l3, some (.int x), l5, l6, l7, l8, l9, l10] [] m Q ↔ AW d 226 10 [l0, l1, l2, l3, some (.int x), l5, l6, l7, l8, l9, l10] [.int x] m Q := A_iload hB_X12_reckons dX12_reckons_8 rfl
theorem dX12_reckons_10 : decode cX12_reckons 10 = .ok (.iload_n 3, 1) := by decide +kernel
theorem tX12_reckons_10 {d : Nat} {l0 l1 l2 l4 l5 l6 l7 l8 l9 l10 : Option Value} {v0 : Value} {x : Int32} {m : jmM} {Q : Option Value → jmM → Prop} : AW d 226 10 [l0, l1, l2, some (.int x), l4, l5, l6, l7, l8, l9, l10] [v0] m Q ↔ AW d 226 11 [l0, l1, l2, some (.int x), l4, l5, l6, l7, l8, l9, l10] [.int x, v0] m Q := A_iload_n hB_X12_reckons dX12_reckons_10 rfl
theorem dX12_reckons_11 : decode cX12_reckons 11 = .ok (.if_icmp .ge 124, 3) := by decide +kernel
theorem tX12_reckons_11 {d : Nat} {l0 l1 l2 l3 l4 l5 l6 l7 l8 l9 l10 : Option Value} {x y : Int32} {m : jmM} {Q : Option Value → jmM → Prop} : AW d 226 11 [l0, l1, l2, l3, l4, l5, l6, l7, l8, l9, l10] [.int y, .int x] m Q ↔ if y ≤ x then AW d 226 135 [l0, l1, l2, l3, l4, l5, l6, l7, l8, l9, l10] [] m Q else AW d 226 14 [l0, l1, l2, l3, l4, l5, l6, l7, l8, l9, l10] [] m Q := A_icmp_ge hB_X12_reckons dX12_reckons_11 (by decide)
theorem dX12_reckons_14 : decode cX12_reckons 14 = .ok (.aload_n 0, 1) := by decide +kernel
theorem tX12_reckons_14 {d : Nat} {l1 l2 l3 l4 l5 l6 l7 l8 l9 l10 : Option Value} {x : Nat} {m : jmM} {Q : Option Value → jmM → Prop} : AW d 226 14 [some (.ref x), l1, l2, l3, l4, l5, l6, l7, l8, l9, l10] [] m Q ↔ AW d 226 15 [some (.ref x), l1, l2, l3, l4, l5, l6, l7, l8, l9, l10] [.ref x] m Q := A_aload_n hB_X12_reckons dX12_reckons_14 rfl
theorem dX12_reckons_15 : decode cX12_reckons 15 = .ok (.getfield 13, 3) := by decide +kernel
theorem tX12_reckons_15 {d : Nat} {l0 l1 l2 l3 l4 l5 l6 l7 l8 l9 l10 : Option Value} {a : Nat} {m : jmM} {Q : Option Value → jmM → Prop} : AW d 226 15 [l0, l1, l2, l3, l4, l5, l6, l7, l8, l9, l10] [.ref a] m Q ↔ (mS m a).1 = 12 ∧ AW d 226 18 [l0, l1, l2, l3, l4, l5, l6, l7, l8, l9, l10] [va_rf (mR m a 2)] m Q := A_getfield (f := fun m a => va_rf (mR m a 2)) hB_X12_reckons dX12_reckons_15 hO_X12_reckons fF_12_13 rfl
theorem dX12_reckons_18 : decode cX12_reckons 18 = .ok (.sipush 400, 3) := by decide +kernel
theorem tX12_reckons_18 {d : Nat} {l0 l1 l2 l3 l4 l5 l6 l7 l8 l9 l10 : Option Value} {v0 : Value} {m : jmM} {Q : Option Value → jmM → Prop} : AW d 226 18 [l0, l1, l2, l3, l4, l5, l6, l7, l8, l9, l10] [v0] m Q ↔ AW d 226 21 [l0, l1, l2, l3, l4, l5, l6, l7, l8, l9, l10] [.int 400, v0] m Q := A_sipush hB_X12_reckons dX12_reckons_18 rfl
theorem dX12_reckons_21 : decode cX12_reckons 21 = .ok (.iload_n 1, 1) := by decide +kernel
theorem tX12_reckons_21 {d : Nat} {l0 l2 l3 l4 l5 l6 l7 l8 l9 l10 : Option Value} {v0 v1 : Value} {x : Int32} {m : jmM} {Q : Option Value → jmM → Prop} : AW d 226 21 [l0, some (.int x), l2, l3, l4, l5, l6, l7, l8, l9, l10] [v0, v1] m Q ↔ AW d 226 22 [l0, some (.int x), l2, l3, l4, l5, l6, l7, l8, l9, l10] [.int x, v0, v1] m Q := A_iload_n hB_X12_reckons dX12_reckons_21 rfl
theorem dX12_reckons_22 : decode cX12_reckons 22 = .ok (.imul, 1) := by decide +kernel
theorem tX12_reckons_22 {d : Nat} {l0 l1 l2 l3 l4 l5 l6 l7 l8 l9 l10 : Option Value} {v2 : Value} {x y : Int32} {m : jmM} {Q : Option Value → jmM → Prop} : AW d 226 22 [l0, l1, l2, l3, l4, l5, l6, l7, l8, l9, l10] [.int y, .int x, v2] m Q ↔ AW d 226 23 [l0, l1, l2, l3, l4, l5, l6, l7, l8, l9, l10] [.int (x * y), v2] m Q := A_imul hB_X12_reckons dX12_reckons_22
theorem dX12_reckons_23 : decode cX12_reckons 23 = .ok (.iload 4, 2) := by decide +kernel
theorem tX12_reckons_23 {d : Nat} {l0 l1 l2 l3 l5 l6 l7 l8 l9 l10 : Option Value} {v0 v1 : Value} {x : Int32} {m : jmM} {Q : Option Value → jmM → Prop} : AW d 226 23 [l0, l1, l2, l3, some (.int x), l5, l6, l7, l8, l9, l10] [v0, v1] m Q ↔ AW d 226 25 [l0, l1, l2, l3, some (.int x), l5, l6, l7, l8, l9, l10] [.int x, v0, v1] m Q := A_iload hB_X12_reckons dX12_reckons_23 rfl
theorem dX12_reckons_25 : decode cX12_reckons 25 = .ok (.iadd, 1) := by decide +kernel
theorem tX12_reckons_25 {d : Nat} {l0 l1 l2 l3 l4 l5 l6 l7 l8 l9 l10 : Option Value} {v2 : Value} {x y : Int32} {m : jmM} {Q : Option Value → jmM → Prop} : AW d 226 25 [l0, l1, l2, l3, l4, l5, l6, l7, l8, l9, l10] [.int y, .int x, v2] m Q ↔ AW d 226 26 [l0, l1, l2, l3, l4, l5, l6, l7, l8, l9, l10] [.int (x + y), v2] m Q := A_iadd hB_X12_reckons dX12_reckons_25
theorem dX12_reckons_26 : decode cX12_reckons 26 = .ok (.iaload, 1) := by decide +kernel
theorem tX12_reckons_26 {d : Nat} {l0 l1 l2 l3 l4 l5 l6 l7 l8 l9 l10 : Option Value} {i : Int32} {a : Nat} {m : jmM} {Q : Option Value → jmM → Prop} : AW d 226 26 [l0, l1, l2, l3, l4, l5, l6, l7, l8, l9, l10] [.int i, .ref a] m Q ↔ (((mS m a).1 = 20 ∨ a = jScr) ∧ jIx i (mS m a).2) ∧ AW d 226 27 [l0, l1, l2, l3, l4, l5, l6, l7, l8, l9, l10] [.int (mI m a (jx i))] m Q := A_iaload hB_X12_reckons dX12_reckons_26
theorem dX12_reckons_27 : decode cX12_reckons 27 = .ok (.bipush 15, 2) := by decide +kernel
theorem tX12_reckons_27 {d : Nat} {l0 l1 l2 l3 l4 l5 l6 l7 l8 l9 l10 : Option Value} {v0 : Value} {m : jmM} {Q : Option Value → jmM → Prop} : AW d 226 27 [l0, l1, l2, l3, l4, l5, l6, l7, l8, l9, l10] [v0] m Q ↔ AW d 226 29 [l0, l1, l2, l3, l4, l5, l6, l7, l8, l9, l10] [.int 15, v0] m Q := A_bipush hB_X12_reckons dX12_reckons_27 rfl
theorem dX12_reckons_29 : decode cX12_reckons 29 = .ok (.iand, 1) := by decide +kernel
theorem tX12_reckons_29 {d : Nat} {l0 l1 l2 l3 l4 l5 l6 l7 l8 l9 l10 : Option Value} {x y : Int32} {m : jmM} {Q : Option Value → jmM → Prop} : AW d 226 29 [l0, l1, l2, l3, l4, l5, l6, l7, l8, l9, l10] [.int y, .int x] m Q ↔ AW d 226 30 [l0, l1, l2, l3, l4, l5, l6, l7, l8, l9, l10] [.int (x &&& y)] m Q := A_iand hB_X12_reckons dX12_reckons_29
theorem dX12_reckons_30 : decode cX12_reckons 30 = .ok (.istore 5, 2) := by decide +kernel
theorem tX12_reckons_30 {d : Nat} {l0 l1 l2 l3 l4 l5 l6 l7 l8 l9 l10 : Option Value} {x : Int32} {m : jmM} {Q : Option Value → jmM → Prop} : AW d 226 30 [l0, l1, l2, l3, l4, l5, l6, l7, l8, l9, l10] [.int x] m Q ↔ AW d 226 32 [l0, l1, l2, l3, jc1 l4, some (.int x), l6, l7, l8, l9, l10] [] m Q := A_istore hB_X12_reckons dX12_reckons_30 (Nat.le_of_ble_eq_true rfl) rfl
theorem dX12_reckons_32 : decode cX12_reckons 32 = .ok (.aload_n 0, 1) := by decide +kernel
theorem tX12_reckons_32 {d : Nat} {l1 l2 l3 l4 l5 l6 l7 l8 l9 l10 : Option Value} {x : Nat} {m : jmM} {Q : Option Value → jmM → Prop} : AW d 226 32 [some (.ref x), l1, l2, l3, l4, l5, l6, l7, l8, l9, l10] [] m Q ↔ AW d 226 33 [some (.ref x), l1, l2, l3, l4, l5, l6, l7, l8, l9, l10] [.ref x] m Q := A_aload_n hB_X12_reckons dX12_reckons_32 rfl
theorem dX12_reckons_33 : decode cX12_reckons 33 = .ok (.getfield 13, 3) := by decide +kernel
theorem tX12_reckons_33 {d : Nat} {l0 l1 l2 l3 l4 l5 l6 l7 l8 l9 l10 : Option Value} {a : Nat} {m : jmM} {Q : Option Value → jmM → Prop} : AW d 226 33 [l0, l1, l2, l3, l4, l5, l6, l7, l8, l9, l10] [.ref a] m Q ↔ (mS m a).1 = 12 ∧ AW d 226 36 [l0, l1, l2, l3, l4, l5, l6, l7, l8, l9, l10] [va_rf (mR m a 2)] m Q := A_getfield (f := fun m a => va_rf (mR m a 2)) hB_X12_reckons dX12_reckons_33 hO_X12_reckons fF_12_13 rfl
theorem dX12_reckons_36 : decode cX12_reckons 36 = .ok (.sipush 400, 3) := by decide +kernel
theorem tX12_reckons_36 {d : Nat} {l0 l1 l2 l3 l4 l5 l6 l7 l8 l9 l10 : Option Value} {v0 : Value} {m : jmM} {Q : Option Value → jmM → Prop} : AW d 226 36 [l0, l1, l2, l3, l4, l5, l6, l7, l8, l9, l10] [v0] m Q ↔ AW d 226 39 [l0, l1, l2, l3, l4, l5, l6, l7, l8, l9, l10] [.int 400, v0] m Q := A_sipush hB_X12_reckons dX12_reckons_36 rfl
theorem dX12_reckons_39 : decode cX12_reckons 39 = .ok (.iload_n 1, 1) := by decide +kernel
theorem tX12_reckons_39 {d : Nat} {l0 l2 l3 l4 l5 l6 l7 l8 l9 l10 : Option Value} {v0 v1 : Value} {x : Int32} {m : jmM} {Q : Option Value → jmM → Prop} : AW d 226 39 [l0, some (.int x), l2, l3, l4, l5, l6, l7, l8, l9, l10] [v0, v1] m Q ↔ AW d 226 40 [l0, some (.int x), l2, l3, l4, l5, l6, l7, l8, l9, l10] [.int x, v0, v1] m Q := A_iload_n hB_X12_reckons dX12_reckons_39 rfl
theorem dX12_reckons_40 : decode cX12_reckons 40 = .ok (.imul, 1) := by decide +kernel
theorem tX12_reckons_40 {d : Nat} {l0 l1 l2 l3 l4 l5 l6 l7 l8 l9 l10 : Option Value} {v2 : Value} {x y : Int32} {m : jmM} {Q : Option Value → jmM → Prop} : AW d 226 40 [l0, l1, l2, l3, l4, l5, l6, l7, l8, l9, l10] [.int y, .int x, v2] m Q ↔ AW d 226 41 [l0, l1, l2, l3, l4, l5, l6, l7, l8, l9, l10] [.int (x * y), v2] m Q := A_imul hB_X12_reckons dX12_reckons_40
theorem dX12_reckons_41 : decode cX12_reckons 41 = .ok (.iload 4, 2) := by decide +kernel
theorem tX12_reckons_41 {d : Nat} {l0 l1 l2 l3 l5 l6 l7 l8 l9 l10 : Option Value} {v0 v1 : Value} {x : Int32} {m : jmM} {Q : Option Value → jmM → Prop} : AW d 226 41 [l0, l1, l2, l3, some (.int x), l5, l6, l7, l8, l9, l10] [v0, v1] m Q ↔ AW d 226 43 [l0, l1, l2, l3, some (.int x), l5, l6, l7, l8, l9, l10] [.int x, v0, v1] m Q := A_iload hB_X12_reckons dX12_reckons_41 rfl
theorem dX12_reckons_43 : decode cX12_reckons 43 = .ok (.iadd, 1) := by decide +kernel
theorem tX12_reckons_43 {d : Nat} {l0 l1 l2 l3 l4 l5 l6 l7 l8 l9 l10 : Option Value} {v2 : Value} {x y : Int32} {m : jmM} {Q : Option Value → jmM → Prop} : AW d 226 43 [l0, l1, l2, l3, l4, l5, l6, l7, l8, l9, l10] [.int y, .int x, v2] m Q ↔ AW d 226 44 [l0, l1, l2, l3, l4, l5, l6, l7, l8, l9, l10] [.int (x + y), v2] m Q := A_iadd hB_X12_reckons dX12_reckons_43
theorem dX12_reckons_44 : decode cX12_reckons 44 = .ok (.iaload, 1) := by decide +kernel
theorem tX12_reckons_44 {d : Nat} {l0 l1 l2 l3 l4 l5 l6 l7 l8 l9 l10 : Option Value} {i : Int32} {a : Nat} {m : jmM} {Q : Option Value → jmM → Prop} : AW d 226 44 [l0, l1, l2, l3, l4, l5, l6, l7, l8, l9, l10] [.int i, .ref a] m Q ↔ (((mS m a).1 = 20 ∨ a = jScr) ∧ jIx i (mS m a).2) ∧ AW d 226 45 [l0, l1, l2, l3, l4, l5, l6, l7, l8, l9, l10] [.int (mI m a (jx i))] m Q := A_iaload hB_X12_reckons dX12_reckons_44
theorem dX12_reckons_45 : decode cX12_reckons 45 = .ok (.iconst 4, 1) := by decide +kernel
theorem tX12_reckons_45 {d : Nat} {l0 l1 l2 l3 l4 l5 l6 l7 l8 l9 l10 : Option Value} {v0 : Value} {m : jmM} {Q : Option Value → jmM → Prop} : AW d 226 45 [l0, l1, l2, l3, l4, l5, l6, l7, l8, l9, l10] [v0] m Q ↔ AW d 226 46 [l0, l1, l2, l3, l4, l5, l6, l7, l8, l9, l10] [.int 4, v0] m Q := A_iconst hB_X12_reckons dX12_reckons_45 (by decide)
theorem dX12_reckons_46 : decode cX12_reckons 46 = .ok (.ishr, 1) := by decide +kernel
theorem tX12_reckons_46 {d : Nat} {l0 l1 l2 l3 l4 l5 l6 l7 l8 l9 l10 : Option Value} {x y : Int32} {m : jmM} {Q : Option Value → jmM → Prop} : AW d 226 46 [l0, l1, l2, l3, l4, l5, l6, l7, l8, l9, l10] [.int y, .int x] m Q ↔ AW d 226 47 [l0, l1, l2, l3, l4, l5, l6, l7, l8, l9, l10] [.int (x >>> (y &&& 31))] m Q := A_ishr hB_X12_reckons dX12_reckons_46
theorem dX12_reckons_47 : decode cX12_reckons 47 = .ok (.istore 6, 2) := by decide +kernel
theorem tX12_reckons_47 {d : Nat} {l0 l1 l2 l3 l4 l5 l6 l7 l8 l9 l10 : Option Value} {x : Int32} {m : jmM} {Q : Option Value → jmM → Prop} : AW d 226 47 [l0, l1, l2, l3, l4, l5, l6, l7, l8, l9, l10] [.int x] m Q ↔ AW d 226 49 [l0, l1, l2, l3, l4, jc1 l5, some (.int x), l7, l8, l9, l10] [] m Q := A_istore hB_X12_reckons dX12_reckons_47 (Nat.le_of_ble_eq_true rfl) rfl
theorem dX12_reckons_49 : decode cX12_reckons 49 = .ok (.iload 5, 2) := by decide +kernel
theorem tX12_reckons_49 {d : Nat} {l0 l1 l2 l3 l4 l6 l7 l8 l9 l10 : Option Value} {x : Int32} {m : jmM} {Q : Option Value → jmM → Prop} : AW d 226 49 [l0, l1, l2, l3, l4, some (.int x), l6, l7, l8, l9, l10] [] m Q ↔ AW d 226 51 [l0, l1, l2, l3, l4, some (.int x), l6, l7, l8, l9, l10] [.int x] m Q := A_iload hB_X12_reckons dX12_reckons_49 rfl
theorem dX12_reckons_51 : decode cX12_reckons 51 = .ok (.ifCond .ne 13, 3) := by decide +kernel
theorem tX12_reckons_51 {d : Nat} {l0 l1 l2 l3 l4 l5 l6 l7 l8 l9 l10 : Option Value} {x : Int32} {m : jmM} {Q : Option Value → jmM → Prop} : AW d 226 51 [l0, l1, l2, l3, l4, l5, l6, l7, l8, l9, l10] [.int x] m Q ↔ if x = 0 then AW d 226 54 [l0, l1, l2, l3, l4, l5, l6, l7, l8, l9, l10] [] m Q else AW d 226 64 [l0, l1, l2, l3, l4, l5, l6, l7, l8, l9, l10] [] m Q := A_if_ne hB_X12_reckons dX12_reckons_51 (by decide)
theorem dX12_reckons_54 : decode cX12_reckons 54 = .ok (.aload_n 0, 1) := by decide +kernel
theorem tX12_reckons_54 {d : Nat} {l1 l2 l3 l4 l5 l6 l7 l8 l9 l10 : Option Value} {x : Nat} {m : jmM} {Q : Option Value → jmM → Prop} : AW d 226 54 [some (.ref x), l1, l2, l3, l4, l5, l6, l7, l8, l9, l10] [] m Q ↔ AW d 226 55 [some (.ref x), l1, l2, l3, l4, l5, l6, l7, l8, l9, l10] [.ref x] m Q := A_aload_n hB_X12_reckons dX12_reckons_54 rfl
theorem dX12_reckons_55 : decode cX12_reckons 55 = .ok (.iload 6, 2) := by decide +kernel
theorem tX12_reckons_55 {d : Nat} {l0 l1 l2 l3 l4 l5 l7 l8 l9 l10 : Option Value} {v0 : Value} {x : Int32} {m : jmM} {Q : Option Value → jmM → Prop} : AW d 226 55 [l0, l1, l2, l3, l4, l5, some (.int x), l7, l8, l9, l10] [v0] m Q ↔ AW d 226 57 [l0, l1, l2, l3, l4, l5, some (.int x), l7, l8, l9, l10] [.int x, v0] m Q := A_iload hB_X12_reckons dX12_reckons_55 rfl
theorem dX12_reckons_57 : decode cX12_reckons 57 = .ok (.i2l, 1) := by decide +kernel
theorem tX12_reckons_57 {d : Nat} {l0 l1 l2 l3 l4 l5 l6 l7 l8 l9 l10 : Option Value} {v1 : Value} {x : Int32} {m : jmM} {Q : Option Value → jmM → Prop} : AW d 226 57 [l0, l1, l2, l3, l4, l5, l6, l7, l8, l9, l10] [.int x, v1] m Q ↔ AW d 226 58 [l0, l1, l2, l3, l4, l5, l6, l7, l8, l9, l10] [.long x.toInt64, v1] m Q := A_i2l hB_X12_reckons dX12_reckons_57
theorem dX12_reckons_58 : decode cX12_reckons 58 = .ok (.invokevirtual 263, 3) := by decide +kernel
theorem tX12_reckons_58 {d : Nat} {l0 l1 l2 l3 l4 l5 l6 l7 l8 l9 l10 : Option Value} {y0 : Value} {a : Nat} {m : jmM} {Q : Option Value → jmM → Prop} : AW d 226 58 [l0, l1, l2, l3, l4, l5, l6, l7, l8, l9, l10] [y0, .ref a] m Q ↔ (mS m a).1 = 12 ∧ CC d 223 [.ref a, y0] m (jK d 226 61 [l0, l1, l2, l3, l4, l5, l6, l7, l8, l9, l10] [] Q) := A_callV hB_X12_reckons dX12_reckons_58 hO_X12_reckons fS_12_263 ⟨Nat.le_of_ble_eq_true rfl, Nat.le_of_ble_eq_true rfl⟩ rfl rfl rfl
theorem dX12_reckons_61 : decode cX12_reckons 61 = .ok (.goto 68, 3) := by decide +kernel
theorem tX12_reckons_61 {d : Nat} {l0 l1 l2 l3 l4 l5 l6 l7 l8 l9 l10 : Option Value} {m : jmM} {Q : Option Value → jmM → Prop} : AW d 226 61 [l0, l1, l2, l3, l4, l5, l6, l7, l8, l9, l10] [] m Q ↔ AW d 226 129 [l0, l1, l2, l3, l4, l5, l6, l7, l8, l9, l10] [] m Q := A_goto hB_X12_reckons dX12_reckons_61 (by decide)
theorem dX12_reckons_64 : decode cX12_reckons 64 = .ok (.iload 5, 2) := by decide +kernel
theorem tX12_reckons_64 {d : Nat} {l0 l1 l2 l3 l4 l6 l7 l8 l9 l10 : Option Value} {x : Int32} {m : jmM} {Q : Option Value → jmM → Prop} : AW d 226 64 [l0, l1, l2, l3, l4, some (.int x), l6, l7, l8, l9, l10] [] m Q ↔ AW d 226 66 [l0, l1, l2, l3, l4, some (.int x), l6, l7, l8, l9, l10] [.int x] m Q := A_iload hB_X12_reckons dX12_reckons_64 rfl
theorem dX12_reckons_66 : decode cX12_reckons 66 = .ok (.iconst 1, 1) := by decide +kernel
theorem tX12_reckons_66 {d : Nat} {l0 l1 l2 l3 l4 l5 l6 l7 l8 l9 l10 : Option Value} {v0 : Value} {m : jmM} {Q : Option Value → jmM → Prop} : AW d 226 66 [l0, l1, l2, l3, l4, l5, l6, l7, l8, l9, l10] [v0] m Q ↔ AW d 226 67 [l0, l1, l2, l3, l4, l5, l6, l7, l8, l9, l10] [.int 1, v0] m Q := A_iconst hB_X12_reckons dX12_reckons_66 (by decide)
theorem dX12_reckons_67 : decode cX12_reckons 67 = .ok (.if_icmp .ne 17, 3) := by decide +kernel
theorem tX12_reckons_67 {d : Nat} {l0 l1 l2 l3 l4 l5 l6 l7 l8 l9 l10 : Option Value} {x y : Int32} {m : jmM} {Q : Option Value → jmM → Prop} : AW d 226 67 [l0, l1, l2, l3, l4, l5, l6, l7, l8, l9, l10] [.int y, .int x] m Q ↔ if x = y then AW d 226 70 [l0, l1, l2, l3, l4, l5, l6, l7, l8, l9, l10] [] m Q else AW d 226 84 [l0, l1, l2, l3, l4, l5, l6, l7, l8, l9, l10] [] m Q := A_icmp_ne hB_X12_reckons dX12_reckons_67 (by decide)
theorem dX12_reckons_70 : decode cX12_reckons 70 = .ok (.aload_n 0, 1) := by decide +kernel
theorem tX12_reckons_70 {d : Nat} {l1 l2 l3 l4 l5 l6 l7 l8 l9 l10 : Option Value} {x : Nat} {m : jmM} {Q : Option Value → jmM → Prop} : AW d 226 70 [some (.ref x), l1, l2, l3, l4, l5, l6, l7, l8, l9, l10] [] m Q ↔ AW d 226 71 [some (.ref x), l1, l2, l3, l4, l5, l6, l7, l8, l9, l10] [.ref x] m Q := A_aload_n hB_X12_reckons dX12_reckons_70 rfl
theorem dX12_reckons_71 : decode cX12_reckons 71 = .ok (.aload_n 0, 1) := by decide +kernel
theorem tX12_reckons_71 {d : Nat} {l1 l2 l3 l4 l5 l6 l7 l8 l9 l10 : Option Value} {v0 : Value} {x : Nat} {m : jmM} {Q : Option Value → jmM → Prop} : AW d 226 71 [some (.ref x), l1, l2, l3, l4, l5, l6, l7, l8, l9, l10] [v0] m Q ↔ AW d 226 72 [some (.ref x), l1, l2, l3, l4, l5, l6, l7, l8, l9, l10] [.ref x, v0] m Q := A_aload_n hB_X12_reckons dX12_reckons_71 rfl
theorem dX12_reckons_72 : decode cX12_reckons 72 = .ok (.getfield 42, 3) := by decide +kernel
theorem tX12_reckons_72 {d : Nat} {l0 l1 l2 l3 l4 l5 l6 l7 l8 l9 l10 : Option Value} {v1 : Value} {a : Nat} {m : jmM} {Q : Option Value → jmM → Prop} : AW d 226 72 [l0, l1, l2, l3, l4, l5, l6, l7, l8, l9, l10] [.ref a, v1] m Q ↔ (mS m a).1 = 12 ∧ AW d 226 75 [l0, l1, l2, l3, l4, l5, l6, l7, l8, l9, l10] [va_rf (mR m a 22), v1] m Q := A_getfield (f := fun m a => va_rf (mR m a 22)) hB_X12_reckons dX12_reckons_72 hO_X12_reckons fF_12_42 rfl
theorem dX12_reckons_75 : decode cX12_reckons 75 = .ok (.iload 6, 2) := by decide +kernel
theorem tX12_reckons_75 {d : Nat} {l0 l1 l2 l3 l4 l5 l7 l8 l9 l10 : Option Value} {v0 v1 : Value} {x : Int32} {m : jmM} {Q : Option Value → jmM → Prop} : AW d 226 75 [l0, l1, l2, l3, l4, l5, some (.int x), l7, l8, l9, l10] [v0, v1] m Q ↔ AW d 226 77 [l0, l1, l2, l3, l4, l5, some (.int x), l7, l8, l9, l10] [.int x, v0, v1] m Q := A_iload hB_X12_reckons dX12_reckons_75 rfl
theorem dX12_reckons_77 : decode cX12_reckons 77 = .ok (.laload, 1) := by decide +kernel
theorem tX12_reckons_77 {d : Nat} {l0 l1 l2 l3 l4 l5 l6 l7 l8 l9 l10 : Option Value} {v2 : Value} {i : Int32} {a : Nat} {m : jmM} {Q : Option Value → jmM → Prop} : AW d 226 77 [l0, l1, l2, l3, l4, l5, l6, l7, l8, l9, l10] [.int i, .ref a, v2] m Q ↔ ((mS m a).1 = 21 ∧ jIx i (mS m a).2) ∧ AW d 226 78 [l0, l1, l2, l3, l4, l5, l6, l7, l8, l9, l10] [.long (mL m a (jx i)), v2] m Q := A_laload hB_X12_reckons dX12_reckons_77
theorem dX12_reckons_78 : decode cX12_reckons 78 = .ok (.invokevirtual 263, 3) := by decide +kernel
theorem tX12_reckons_78 {d : Nat} {l0 l1 l2 l3 l4 l5 l6 l7 l8 l9 l10 : Option Value} {y0 : Value} {a : Nat} {m : jmM} {Q : Option Value → jmM → Prop} : AW d 226 78 [l0, l1, l2, l3, l4, l5, l6, l7, l8, l9, l10] [y0, .ref a] m Q ↔ (mS m a).1 = 12 ∧ CC d 223 [.ref a, y0] m (jK d 226 81 [l0, l1, l2, l3, l4, l5, l6, l7, l8, l9, l10] [] Q) := A_callV hB_X12_reckons dX12_reckons_78 hO_X12_reckons fS_12_263 ⟨Nat.le_of_ble_eq_true rfl, Nat.le_of_ble_eq_true rfl⟩ rfl rfl rfl
theorem dX12_reckons_81 : decode cX12_reckons 81 = .ok (.goto 48, 3) := by decide +kernel
theorem tX12_reckons_81 {d : Nat} {l0 l1 l2 l3 l4 l5 l6 l7 l8 l9 l10 : Option Value} {m : jmM} {Q : Option Value → jmM → Prop} : AW d 226 81 [l0, l1, l2, l3, l4, l5, l6, l7, l8, l9, l10] [] m Q ↔ AW d 226 129 [l0, l1, l2, l3, l4, l5, l6, l7, l8, l9, l10] [] m Q := A_goto hB_X12_reckons dX12_reckons_81 (by decide)
theorem dX12_reckons_84 : decode cX12_reckons 84 = .ok (.iload 5, 2) := by decide +kernel
theorem tX12_reckons_84 {d : Nat} {l0 l1 l2 l3 l4 l6 l7 l8 l9 l10 : Option Value} {x : Int32} {m : jmM} {Q : Option Value → jmM → Prop} : AW d 226 84 [l0, l1, l2, l3, l4, some (.int x), l6, l7, l8, l9, l10] [] m Q ↔ AW d 226 86 [l0, l1, l2, l3, l4, some (.int x), l6, l7, l8, l9, l10] [.int x] m Q := A_iload hB_X12_reckons dX12_reckons_84 rfl
theorem dX12_reckons_86 : decode cX12_reckons 86 = .ok (.bipush 11, 2) := by decide +kernel
theorem tX12_reckons_86 {d : Nat} {l0 l1 l2 l3 l4 l5 l6 l7 l8 l9 l10 : Option Value} {v0 : Value} {m : jmM} {Q : Option Value → jmM → Prop} : AW d 226 86 [l0, l1, l2, l3, l4, l5, l6, l7, l8, l9, l10] [v0] m Q ↔ AW d 226 88 [l0, l1, l2, l3, l4, l5, l6, l7, l8, l9, l10] [.int 11, v0] m Q := A_bipush hB_X12_reckons dX12_reckons_86 rfl
theorem dX12_reckons_88 : decode cX12_reckons 88 = .ok (.if_icmp .ne 16, 3) := by decide +kernel
theorem tX12_reckons_88 {d : Nat} {l0 l1 l2 l3 l4 l5 l6 l7 l8 l9 l10 : Option Value} {x y : Int32} {m : jmM} {Q : Option Value → jmM → Prop} : AW d 226 88 [l0, l1, l2, l3, l4, l5, l6, l7, l8, l9, l10] [.int y, .int x] m Q ↔ if x = y then AW d 226 91 [l0, l1, l2, l3, l4, l5, l6, l7, l8, l9, l10] [] m Q else AW d 226 104 [l0, l1, l2, l3, l4, l5, l6, l7, l8, l9, l10] [] m Q := A_icmp_ne hB_X12_reckons dX12_reckons_88 (by decide)
theorem dX12_reckons_91 : decode cX12_reckons 91 = .ok (.aload_n 0, 1) := by decide +kernel
theorem tX12_reckons_91 {d : Nat} {l1 l2 l3 l4 l5 l6 l7 l8 l9 l10 : Option Value} {x : Nat} {m : jmM} {Q : Option Value → jmM → Prop} : AW d 226 91 [some (.ref x), l1, l2, l3, l4, l5, l6, l7, l8, l9, l10] [] m Q ↔ AW d 226 92 [some (.ref x), l1, l2, l3, l4, l5, l6, l7, l8, l9, l10] [.ref x] m Q := A_aload_n hB_X12_reckons dX12_reckons_91 rfl
theorem dX12_reckons_92 : decode cX12_reckons 92 = .ok (.lconst 1, 1) := by decide +kernel
theorem tX12_reckons_92 {d : Nat} {l0 l1 l2 l3 l4 l5 l6 l7 l8 l9 l10 : Option Value} {v0 : Value} {m : jmM} {Q : Option Value → jmM → Prop} : AW d 226 92 [l0, l1, l2, l3, l4, l5, l6, l7, l8, l9, l10] [v0] m Q ↔ AW d 226 93 [l0, l1, l2, l3, l4, l5, l6, l7, l8, l9, l10] [.long 1, v0] m Q := A_lconst hB_X12_reckons dX12_reckons_92 (by decide)
theorem dX12_reckons_93 : decode cX12_reckons 93 = .ok (.aload_n 0, 1) := by decide +kernel
theorem tX12_reckons_93 {d : Nat} {l1 l2 l3 l4 l5 l6 l7 l8 l9 l10 : Option Value} {v0 v1 : Value} {x : Nat} {m : jmM} {Q : Option Value → jmM → Prop} : AW d 226 93 [some (.ref x), l1, l2, l3, l4, l5, l6, l7, l8, l9, l10] [v0, v1] m Q ↔ AW d 226 94 [some (.ref x), l1, l2, l3, l4, l5, l6, l7, l8, l9, l10] [.ref x, v0, v1] m Q := A_aload_n hB_X12_reckons dX12_reckons_93 rfl
theorem dX12_reckons_94 : decode cX12_reckons 94 = .ok (.invokevirtual 267, 3) := by decide +kernel
theorem tX12_reckons_94 {d : Nat} {l0 l1 l2 l3 l4 l5 l6 l7 l8 l9 l10 : Option Value} {v1 v2 : Value} {a : Nat} {m : jmM} {Q : Option Value → jmM → Prop} : AW d 226 94 [l0, l1, l2, l3, l4, l5, l6, l7, l8, l9, l10] [.ref a, v1, v2] m Q ↔ (mS m a).1 = 12 ∧ CC d 224 [.ref a] m (jK d 226 97 [l0, l1, l2, l3, l4, l5, l6, l7, l8, l9, l10] [v1, v2] Q) := A_callV hB_X12_reckons dX12_reckons_94 hO_X12_reckons fS_12_267 ⟨Nat.le_of_ble_eq_true rfl, Nat.le_of_ble_eq_true rfl⟩ rfl rfl rfl
theorem dX12_reckons_97 : decode cX12_reckons 97 = .ok (.lsub, 1) := by decide +kernel
theorem tX12_reckons_97 {d : Nat} {l0 l1 l2 l3 l4 l5 l6 l7 l8 l9 l10 : Option Value} {v2 : Value} {x y : Int64} {m : jmM} {Q : Option Value → jmM → Prop} : AW d 226 97 [l0, l1, l2, l3, l4, l5, l6, l7, l8, l9, l10] [.long y, .long x, v2] m Q ↔ AW d 226 98 [l0, l1, l2, l3, l4, l5, l6, l7, l8, l9, l10] [.long (x - y), v2] m Q := A_lsub hB_X12_reckons dX12_reckons_97
theorem dX12_reckons_98 : decode cX12_reckons 98 = .ok (.invokevirtual 263, 3) := by decide +kernel
theorem tX12_reckons_98 {d : Nat} {l0 l1 l2 l3 l4 l5 l6 l7 l8 l9 l10 : Option Value} {y0 : Value} {a : Nat} {m : jmM} {Q : Option Value → jmM → Prop} : AW d 226 98 [l0, l1, l2, l3, l4, l5, l6, l7, l8, l9, l10] [y0, .ref a] m Q ↔ (mS m a).1 = 12 ∧ CC d 223 [.ref a, y0] m (jK d 226 101 [l0, l1, l2, l3, l4, l5, l6, l7, l8, l9, l10] [] Q) := A_callV hB_X12_reckons dX12_reckons_98 hO_X12_reckons fS_12_263 ⟨Nat.le_of_ble_eq_true rfl, Nat.le_of_ble_eq_true rfl⟩ rfl rfl rfl
theorem dX12_reckons_101 : decode cX12_reckons 101 = .ok (.goto 28, 3) := by decide +kernel
theorem tX12_reckons_101 {d : Nat} {l0 l1 l2 l3 l4 l5 l6 l7 l8 l9 l10 : Option Value} {m : jmM} {Q : Option Value → jmM → Prop} : AW d 226 101 [l0, l1, l2, l3, l4, l5, l6, l7, l8, l9, l10] [] m Q ↔ AW d 226 129 [l0, l1, l2, l3, l4, l5, l6, l7, l8, l9, l10] [] m Q := A_goto hB_X12_reckons dX12_reckons_101 (by decide)
theorem dX12_reckons_104 : decode cX12_reckons 104 = .ok (.aload_n 0, 1) := by decide +kernel
theorem tX12_reckons_104 {d : Nat} {l1 l2 l3 l4 l5 l6 l7 l8 l9 l10 : Option Value} {x : Nat} {m : jmM} {Q : Option Value → jmM → Prop} : AW d 226 104 [some (.ref x), l1, l2, l3, l4, l5, l6, l7, l8, l9, l10] [] m Q ↔ AW d 226 105 [some (.ref x), l1, l2, l3, l4, l5, l6, l7, l8, l9, l10] [.ref x] m Q := A_aload_n hB_X12_reckons dX12_reckons_104 rfl
theorem dX12_reckons_105 : decode cX12_reckons 105 = .ok (.invokevirtual 267, 3) := by decide +kernel
theorem tX12_reckons_105 {d : Nat} {l0 l1 l2 l3 l4 l5 l6 l7 l8 l9 l10 : Option Value} {a : Nat} {m : jmM} {Q : Option Value → jmM → Prop} : AW d 226 105 [l0, l1, l2, l3, l4, l5, l6, l7, l8, l9, l10] [.ref a] m Q ↔ (mS m a).1 = 12 ∧ CC d 224 [.ref a] m (jK d 226 108 [l0, l1, l2, l3, l4, l5, l6, l7, l8, l9, l10] [] Q) := A_callV hB_X12_reckons dX12_reckons_105 hO_X12_reckons fS_12_267 ⟨Nat.le_of_ble_eq_true rfl, Nat.le_of_ble_eq_true rfl⟩ rfl rfl rfl
theorem dX12_reckons_108 : decode cX12_reckons 108 = .ok (.lstore 7, 2) := by decide +kernel
theorem tX12_reckons_108 {d : Nat} {l0 l1 l2 l3 l4 l5 l6 l7 l8 l9 l10 : Option Value} {x : Int64} {m : jmM} {Q : Option Value → jmM → Prop} : AW d 226 108 [l0, l1, l2, l3, l4, l5, l6, l7, l8, l9, l10] [.long x] m Q ↔ AW d 226 110 [l0, l1, l2, l3, l4, l5, jc1 l6, some (.long x), none, l9, l10] [] m Q := A_lstore hB_X12_reckons dX12_reckons_108 (Nat.le_of_ble_eq_true rfl) rfl
theorem dX12_reckons_110 : decode cX12_reckons 110 = .ok (.aload_n 0, 1) := by decide +kernel
theorem tX12_reckons_110 {d : Nat} {l1 l2 l3 l4 l5 l6 l7 l8 l9 l10 : Option Value} {x : Nat} {m : jmM} {Q : Option Value → jmM → Prop} : AW d 226 110 [some (.ref x), l1, l2, l3, l4, l5, l6, l7, l8, l9, l10] [] m Q ↔ AW d 226 111 [some (.ref x), l1, l2, l3, l4, l5, l6, l7, l8, l9, l10] [.ref x] m Q := A_aload_n hB_X12_reckons dX12_reckons_110 rfl
theorem dX12_reckons_111 : decode cX12_reckons 111 = .ok (.invokevirtual 267, 3) := by decide +kernel
theorem tX12_reckons_111 {d : Nat} {l0 l1 l2 l3 l4 l5 l6 l7 l8 l9 l10 : Option Value} {a : Nat} {m : jmM} {Q : Option Value → jmM → Prop} : AW d 226 111 [l0, l1, l2, l3, l4, l5, l6, l7, l8, l9, l10] [.ref a] m Q ↔ (mS m a).1 = 12 ∧ CC d 224 [.ref a] m (jK d 226 114 [l0, l1, l2, l3, l4, l5, l6, l7, l8, l9, l10] [] Q) := A_callV hB_X12_reckons dX12_reckons_111 hO_X12_reckons fS_12_267 ⟨Nat.le_of_ble_eq_true rfl, Nat.le_of_ble_eq_true rfl⟩ rfl rfl rfl
theorem dX12_reckons_114 : decode cX12_reckons 114 = .ok (.lstore 9, 2) := by decide +kernel
theorem tX12_reckons_114 {d : Nat} {l0 l1 l2 l3 l4 l5 l6 l7 l8 l9 l10 : Option Value} {x : Int64} {m : jmM} {Q : Option Value → jmM → Prop} : AW d 226 114 [l0, l1, l2, l3, l4, l5, l6, l7, l8, l9, l10] [.long x] m Q ↔ AW d 226 116 [l0, l1, l2, l3, l4, l5, l6, l7, jc1 l8, some (.long x), none] [] m Q := A_lstore hB_X12_reckons dX12_reckons_114 (Nat.le_of_ble_eq_true rfl) rfl
theorem dX12_reckons_116 : decode cX12_reckons 116 = .ok (.aload_n 0, 1) := by decide +kernel
theorem tX12_reckons_116 {d : Nat} {l1 l2 l3 l4 l5 l6 l7 l8 l9 l10 : Option Value} {x : Nat} {m : jmM} {Q : Option Value → jmM → Prop} : AW d 226 116 [some (.ref x), l1, l2, l3, l4, l5, l6, l7, l8, l9, l10] [] m Q ↔ AW d 226 117 [some (.ref x), l1, l2, l3, l4, l5, l6, l7, l8, l9, l10] [.ref x] m Q := A_aload_n hB_X12_reckons dX12_reckons_116 rfl
theorem dX12_reckons_117 : decode cX12_reckons 117 = .ok (.iload 5, 2) := by decide +kernel
theorem tX12_reckons_117 {d : Nat} {l0 l1 l2 l3 l4 l6 l7 l8 l9 l10 : Option Value} {v0 : Value} {x : Int32} {m : jmM} {Q : Option Value → jmM → Prop} : AW d 226 117 [l0, l1, l2, l3, l4, some (.int x), l6, l7, l8, l9, l10] [v0] m Q ↔ AW d 226 119 [l0, l1, l2, l3, l4, some (.int x), l6, l7, l8, l9, l10] [.int x, v0] m Q := A_iload hB_X12_reckons dX12_reckons_117 rfl
theorem dX12_reckons_119 : decode cX12_reckons 119 = .ok (.lload 9, 2) := by decide +kernel
theorem tX12_reckons_119 {d : Nat} {l0 l1 l2 l3 l4 l5 l6 l7 l8 l10 : Option Value} {v0 v1 : Value} {x : Int64} {m : jmM} {Q : Option Value → jmM → Prop} : AW d 226 119 [l0, l1, l2, l3, l4, l5, l6, l7, l8, some (.long x), l10] [v0, v1] m Q ↔ AW d 226 121 [l0, l1, l2, l3, l4, l5, l6, l7, l8, some (.long x), l10] [.long x, v0, v1] m Q := A_lload hB_X12_reckons dX12_reckons_119 rfl
theorem dX12_reckons_121 : decode cX12_reckons 121 = .ok (.lload 7, 2) := by decide +kernel
theorem tX12_reckons_121 {d : Nat} {l0 l1 l2 l3 l4 l5 l6 l8 l9 l10 : Option Value} {v0 v1 v2 : Value} {x : Int64} {m : jmM} {Q : Option Value → jmM → Prop} : AW d 226 121 [l0, l1, l2, l3, l4, l5, l6, some (.long x), l8, l9, l10] [v0, v1, v2] m Q ↔ AW d 226 123 [l0, l1, l2, l3, l4, l5, l6, some (.long x), l8, l9, l10] [.long x, v0, v1, v2] m Q := A_lload hB_X12_reckons dX12_reckons_121 rfl
theorem dX12_reckons_123 : decode cX12_reckons 123 = .ok (.invokestatic 271, 3) := by decide +kernel
theorem tX12_reckons_123 {d : Nat} {l0 l1 l2 l3 l4 l5 l6 l7 l8 l9 l10 : Option Value} {v3 : Value} {y0 y1 y2 : Value} {m : jmM} {Q : Option Value → jmM → Prop} : AW d 226 123 [l0, l1, l2, l3, l4, l5, l6, l7, l8, l9, l10] [y0, y1, y2, v3] m Q ↔ CC d 225 [y2, y1, y0] m (jK d 226 126 [l0, l1, l2, l3, l4, l5, l6, l7, l8, l9, l10] [v3] Q) := A_callS0 hB_X12_reckons dX12_reckons_123 hO_X12_reckons fS_12_271 ⟨Nat.le_of_ble_eq_true rfl, Nat.le_of_ble_eq_true rfl⟩ rfl rfl
theorem dX12_reckons_126 : decode cX12_reckons 126 = .ok (.invokevirtual 263, 3) := by decide +kernel
theorem tX12_reckons_126 {d : Nat} {l0 l1 l2 l3 l4 l5 l6 l7 l8 l9 l10 : Option Value} {y0 : Value} {a : Nat} {m : jmM} {Q : Option Value → jmM → Prop} : AW d 226 126 [l0, l1, l2, l3, l4, l5, l6, l7, l8, l9, l10] [y0, .ref a] m Q ↔ (mS m a).1 = 12 ∧ CC d 223 [.ref a, y0] m (jK d 226 129 [l0, l1, l2, l3, l4, l5, l6, l7, l8, l9, l10] [] Q) := A_callV hB_X12_reckons dX12_reckons_126 hO_X12_reckons fS_12_263 ⟨Nat.le_of_ble_eq_true rfl, Nat.le_of_ble_eq_true rfl⟩ rfl rfl rfl
theorem dX12_reckons_129 : decode cX12_reckons 129 = .ok (.iinc 4 1, 3) := by decide +kernel
theorem tX12_reckons_129 {d : Nat} {l0 l1 l2 l3 l5 l6 l7 l8 l9 l10 : Option Value} {x : Int32} {m : jmM} {Q : Option Value → jmM → Prop} : AW d 226 129 [l0, l1, l2, l3, some (.int x), l5, l6, l7, l8, l9, l10] [] m Q ↔ AW d 226 132 [l0, l1, l2, jc1 l3, some (.int (x + 1)), l5, l6, l7, l8, l9, l10] [] m Q := A_iinc hB_X12_reckons dX12_reckons_129 rfl (Nat.le_of_ble_eq_true rfl) (v := 1) (by decide) rfl
theorem dX12_reckons_132 : decode cX12_reckons 132 = .ok (.goto (-124), 3) := by decide +kernel
theorem tX12_reckons_132 {d : Nat} {l0 l1 l2 l3 l4 l5 l6 l7 l8 l9 l10 : Option Value} {m : jmM} {Q : Option Value → jmM → Prop} : AW d 226 132 [l0, l1, l2, l3, l4, l5, l6, l7, l8, l9, l10] [] m Q ↔ AW d 226 8 [l0, l1, l2, l3, l4, l5, l6, l7, l8, l9, l10] [] m Q := A_goto hB_X12_reckons dX12_reckons_132 (by decide)
theorem dX12_reckons_135 : decode cX12_reckons 135 = .ok (.aload_n 0, 1) := by decide +kernel
theorem tX12_reckons_135 {d : Nat} {l1 l2 l3 l4 l5 l6 l7 l8 l9 l10 : Option Value} {x : Nat} {m : jmM} {Q : Option Value → jmM → Prop} : AW d 226 135 [some (.ref x), l1, l2, l3, l4, l5, l6, l7, l8, l9, l10] [] m Q ↔ AW d 226 136 [some (.ref x), l1, l2, l3, l4, l5, l6, l7, l8, l9, l10] [.ref x] m Q := A_aload_n hB_X12_reckons dX12_reckons_135 rfl
theorem dX12_reckons_136 : decode cX12_reckons 136 = .ok (.invokevirtual 267, 3) := by decide +kernel
theorem tX12_reckons_136 {d : Nat} {l0 l1 l2 l3 l4 l5 l6 l7 l8 l9 l10 : Option Value} {a : Nat} {m : jmM} {Q : Option Value → jmM → Prop} : AW d 226 136 [l0, l1, l2, l3, l4, l5, l6, l7, l8, l9, l10] [.ref a] m Q ↔ (mS m a).1 = 12 ∧ CC d 224 [.ref a] m (jK d 226 139 [l0, l1, l2, l3, l4, l5, l6, l7, l8, l9, l10] [] Q) := A_callV hB_X12_reckons dX12_reckons_136 hO_X12_reckons fS_12_267 ⟨Nat.le_of_ble_eq_true rfl, Nat.le_of_ble_eq_true rfl⟩ rfl rfl rfl
theorem dX12_reckons_139 : decode cX12_reckons 139 = .ok (.lreturn, 1) := by decide +kernel
theorem tX12_reckons_139 {d : Nat} {l0 l1 l2 l3 l4 l5 l6 l7 l8 l9 l10 : Option Value} {x : Int64} {m : jmM} {Q : Option Value → jmM → Prop} : AW d 226 139 [l0, l1, l2, l3, l4, l5, l6, l7, l8, l9, l10] [.long x] m Q ↔ Q (some (.long x)) m := A_lreturn hB_X12_reckons dX12_reckons_139 hR_X12_reckons
theorem hB_X12_holding : jB 227 = cX12_holding := rfl
theorem hO_X12_holding : jO 227 = 12 := rfl
theorem hR_X12_holding : jRt 227 = (some .int) := rfl
theorem nX12_holding (d : Nat) (x0 : Nat) (x1 : Int32) (x2 : Int32) (m : jmM) (Q : Option Value → jmM → Prop) : CC (d + 1) 227 [.ref x0, .int x1, .int x2] m Q ↔ AW d 227 0 [some (.ref x0), some (.int x1), some (.int x2), none, none] [] m Q := CC_body (Nat.le_of_ble_eq_true rfl)
theorem dX12_holding_0 : decode cX12_holding 0 = .ok (.iconst 0, 1) := by decide +kernel
theorem tX12_holding_0 {d : Nat} {l0 l1 l2 l3 l4 : Option Value} {m : jmM} {Q : Option Value → jmM → Prop} : AW d 227 0 [l0, l1, l2, l3, l4] [] m Q ↔ AW d 227 1 [l0, l1, l2, l3, l4] [.int 0] m Q := A_iconst hB_X12_holding dX12_holding_0 (by decide)
theorem dX12_holding_1 : decode cX12_holding 1 = .ok (.istore_n 3, 1) := by decide +kernel
theorem tX12_holding_1 {d : Nat} {l0 l1 l2 l3 l4 : Option Value} {x : Int32} {m : jmM} {Q : Option Value → jmM → Prop} : AW d 227 1 [l0, l1, l2, l3, l4] [.int x] m Q ↔ AW d 227 2 [l0, l1, jc1 l2, some (.int x), l4] [] m Q := A_istore_n hB_X12_holding dX12_holding_1 (Nat.le_of_ble_eq_true rfl) rfl
theorem dX12_holding_2 : decode cX12_holding 2 = .ok (.iload_n 3, 1) := by decide +kernel
theorem tX12_holding_2 {d : Nat} {l0 l1 l2 l4 : Option Value} {x : Int32} {m : jmM} {Q : Option Value → jmM → Prop} : AW d 227 2 [l0, l1, l2, some (.int x), l4] [] m Q ↔ AW d 227 3 [l0, l1, l2, some (.int x), l4] [.int x] m Q := A_iload_n hB_X12_holding dX12_holding_2 rfl
theorem dX12_holding_3 : decode cX12_holding 3 = .ok (.aload_n 0, 1) := by decide +kernel
theorem tX12_holding_3 {d : Nat} {l1 l2 l3 l4 : Option Value} {v0 : Value} {x : Nat} {m : jmM} {Q : Option Value → jmM → Prop} : AW d 227 3 [some (.ref x), l1, l2, l3, l4] [v0] m Q ↔ AW d 227 4 [some (.ref x), l1, l2, l3, l4] [.ref x, v0] m Q := A_aload_n hB_X12_holding dX12_holding_3 rfl
theorem dX12_holding_4 : decode cX12_holding 4 = .ok (.getfield 23, 3) := by decide +kernel
theorem tX12_holding_4 {d : Nat} {l0 l1 l2 l3 l4 : Option Value} {v1 : Value} {a : Nat} {m : jmM} {Q : Option Value → jmM → Prop} : AW d 227 4 [l0, l1, l2, l3, l4] [.ref a, v1] m Q ↔ (mS m a).1 = 12 ∧ AW d 227 7 [l0, l1, l2, l3, l4] [va_rf (mR m a 5), v1] m Q := A_getfield (f := fun m a => va_rf (mR m a 5)) hB_X12_holding dX12_holding_4 hO_X12_holding fF_12_23 rfl
theorem dX12_holding_7 : decode cX12_holding 7 = .ok (.iload_n 1, 1) := by decide +kernel
theorem tX12_holding_7 {d : Nat} {l0 l2 l3 l4 : Option Value} {v0 v1 : Value} {x : Int32} {m : jmM} {Q : Option Value → jmM → Prop} : AW d 227 7 [l0, some (.int x), l2, l3, l4] [v0, v1] m Q ↔ AW d 227 8 [l0, some (.int x), l2, l3, l4] [.int x, v0, v1] m Q := A_iload_n hB_X12_holding dX12_holding_7 rfl
theorem dX12_holding_8 : decode cX12_holding 8 = .ok (.iaload, 1) := by decide +kernel
theorem tX12_holding_8 {d : Nat} {l0 l1 l2 l3 l4 : Option Value} {v2 : Value} {i : Int32} {a : Nat} {m : jmM} {Q : Option Value → jmM → Prop} : AW d 227 8 [l0, l1, l2, l3, l4] [.int i, .ref a, v2] m Q ↔ (((mS m a).1 = 20 ∨ a = jScr) ∧ jIx i (mS m a).2) ∧ AW d 227 9 [l0, l1, l2, l3, l4] [.int (mI m a (jx i)), v2] m Q := A_iaload hB_X12_holding dX12_holding_8
theorem dX12_holding_9 : decode cX12_holding 9 = .ok (.if_icmp .ge 73, 3) := by decide +kernel
theorem tX12_holding_9 {d : Nat} {l0 l1 l2 l3 l4 : Option Value} {x y : Int32} {m : jmM} {Q : Option Value → jmM → Prop} : AW d 227 9 [l0, l1, l2, l3, l4] [.int y, .int x] m Q ↔ if y ≤ x then AW d 227 82 [l0, l1, l2, l3, l4] [] m Q else AW d 227 12 [l0, l1, l2, l3, l4] [] m Q := A_icmp_ge hB_X12_holding dX12_holding_9 (by decide)
theorem dX12_holding_12 : decode cX12_holding 12 = .ok (.bipush 60, 2) := by decide +kernel
theorem tX12_holding_12 {d : Nat} {l0 l1 l2 l3 l4 : Option Value} {m : jmM} {Q : Option Value → jmM → Prop} : AW d 227 12 [l0, l1, l2, l3, l4] [] m Q ↔ AW d 227 14 [l0, l1, l2, l3, l4] [.int 60] m Q := A_bipush hB_X12_holding dX12_holding_12 rfl
theorem dX12_holding_14 : decode cX12_holding 14 = .ok (.iload_n 1, 1) := by decide +kernel
theorem tX12_holding_14 {d : Nat} {l0 l2 l3 l4 : Option Value} {v0 : Value} {x : Int32} {m : jmM} {Q : Option Value → jmM → Prop} : AW d 227 14 [l0, some (.int x), l2, l3, l4] [v0] m Q ↔ AW d 227 15 [l0, some (.int x), l2, l3, l4] [.int x, v0] m Q := A_iload_n hB_X12_holding dX12_holding_14 rfl
theorem dX12_holding_15 : decode cX12_holding 15 = .ok (.imul, 1) := by decide +kernel
theorem tX12_holding_15 {d : Nat} {l0 l1 l2 l3 l4 : Option Value} {x y : Int32} {m : jmM} {Q : Option Value → jmM → Prop} : AW d 227 15 [l0, l1, l2, l3, l4] [.int y, .int x] m Q ↔ AW d 227 16 [l0, l1, l2, l3, l4] [.int (x * y)] m Q := A_imul hB_X12_holding dX12_holding_15
theorem dX12_holding_16 : decode cX12_holding 16 = .ok (.iconst 5, 1) := by decide +kernel
theorem tX12_holding_16 {d : Nat} {l0 l1 l2 l3 l4 : Option Value} {v0 : Value} {m : jmM} {Q : Option Value → jmM → Prop} : AW d 227 16 [l0, l1, l2, l3, l4] [v0] m Q ↔ AW d 227 17 [l0, l1, l2, l3, l4] [.int 5, v0] m Q := A_iconst hB_X12_holding dX12_holding_16 (by decide)
theorem dX12_holding_17 : decode cX12_holding 17 = .ok (.iload_n 3, 1) := by decide +kernel
theorem tX12_holding_17 {d : Nat} {l0 l1 l2 l4 : Option Value} {v0 v1 : Value} {x : Int32} {m : jmM} {Q : Option Value → jmM → Prop} : AW d 227 17 [l0, l1, l2, some (.int x), l4] [v0, v1] m Q ↔ AW d 227 18 [l0, l1, l2, some (.int x), l4] [.int x, v0, v1] m Q := A_iload_n hB_X12_holding dX12_holding_17 rfl
theorem dX12_holding_18 : decode cX12_holding 18 = .ok (.imul, 1) := by decide +kernel
theorem tX12_holding_18 {d : Nat} {l0 l1 l2 l3 l4 : Option Value} {v2 : Value} {x y : Int32} {m : jmM} {Q : Option Value → jmM → Prop} : AW d 227 18 [l0, l1, l2, l3, l4] [.int y, .int x, v2] m Q ↔ AW d 227 19 [l0, l1, l2, l3, l4] [.int (x * y), v2] m Q := A_imul hB_X12_holding dX12_holding_18
theorem dX12_holding_19 : decode cX12_holding 19 = .ok (.iadd, 1) := by decide +kernel
theorem tX12_holding_19 {d : Nat} {l0 l1 l2 l3 l4 : Option Value} {x y : Int32} {m : jmM} {Q : Option Value → jmM → Prop} : AW d 227 19 [l0, l1, l2, l3, l4] [.int y, .int x] m Q ↔ AW d 227 20 [l0, l1, l2, l3, l4] [.int (x + y)] m Q := A_iadd hB_X12_holding dX12_holding_19
theorem dX12_holding_20 : decode cX12_holding 20 = .ok (.istore 4, 2) := by decide +kernel
theorem tX12_holding_20 {d : Nat} {l0 l1 l2 l3 l4 : Option Value} {x : Int32} {m : jmM} {Q : Option Value → jmM → Prop} : AW d 227 20 [l0, l1, l2, l3, l4] [.int x] m Q ↔ AW d 227 22 [l0, l1, l2, jc1 l3, some (.int x)] [] m Q := A_istore hB_X12_holding dX12_holding_20 (Nat.le_of_ble_eq_true rfl) rfl
theorem dX12_holding_22 : decode cX12_holding 22 = .ok (.aload_n 0, 1) := by decide +kernel
theorem tX12_holding_22 {d : Nat} {l1 l2 l3 l4 : Option Value} {x : Nat} {m : jmM} {Q : Option Value → jmM → Prop} : AW d 227 22 [some (.ref x), l1, l2, l3, l4] [] m Q ↔ AW d 227 23 [some (.ref x), l1, l2, l3, l4] [.ref x] m Q := A_aload_n hB_X12_holding dX12_holding_22 rfl
theorem dX12_holding_23 : decode cX12_holding 23 = .ok (.getfield 20, 3) := by decide +kernel
theorem tX12_holding_23 {d : Nat} {l0 l1 l2 l3 l4 : Option Value} {a : Nat} {m : jmM} {Q : Option Value → jmM → Prop} : AW d 227 23 [l0, l1, l2, l3, l4] [.ref a] m Q ↔ (mS m a).1 = 12 ∧ AW d 227 26 [l0, l1, l2, l3, l4] [va_rf (mR m a 4)] m Q := A_getfield (f := fun m a => va_rf (mR m a 4)) hB_X12_holding dX12_holding_23 hO_X12_holding fF_12_20 rfl
theorem dX12_holding_26 : decode cX12_holding 26 = .ok (.iload 4, 2) := by decide +kernel
theorem tX12_holding_26 {d : Nat} {l0 l1 l2 l3 : Option Value} {v0 : Value} {x : Int32} {m : jmM} {Q : Option Value → jmM → Prop} : AW d 227 26 [l0, l1, l2, l3, some (.int x)] [v0] m Q ↔ AW d 227 28 [l0, l1, l2, l3, some (.int x)] [.int x, v0] m Q := A_iload hB_X12_holding dX12_holding_26 rfl
theorem dX12_holding_28 : decode cX12_holding 28 = .ok (.iaload, 1) := by decide +kernel
theorem tX12_holding_28 {d : Nat} {l0 l1 l2 l3 l4 : Option Value} {i : Int32} {a : Nat} {m : jmM} {Q : Option Value → jmM → Prop} : AW d 227 28 [l0, l1, l2, l3, l4] [.int i, .ref a] m Q ↔ (((mS m a).1 = 20 ∨ a = jScr) ∧ jIx i (mS m a).2) ∧ AW d 227 29 [l0, l1, l2, l3, l4] [.int (mI m a (jx i))] m Q := A_iaload hB_X12_holding dX12_holding_28
theorem dX12_holding_29 : decode cX12_holding 29 = .ok (.iload_n 2, 1) := by decide +kernel
theorem tX12_holding_29 {d : Nat} {l0 l1 l3 l4 : Option Value} {v0 : Value} {x : Int32} {m : jmM} {Q : Option Value → jmM → Prop} : AW d 227 29 [l0, l1, some (.int x), l3, l4] [v0] m Q ↔ AW d 227 30 [l0, l1, some (.int x), l3, l4] [.int x, v0] m Q := A_iload_n hB_X12_holding dX12_holding_29 rfl
theorem dX12_holding_30 : decode cX12_holding 30 = .ok (.if_icmp .ne 46, 3) := by decide +kernel
theorem tX12_holding_30 {d : Nat} {l0 l1 l2 l3 l4 : Option Value} {x y : Int32} {m : jmM} {Q : Option Value → jmM → Prop} : AW d 227 30 [l0, l1, l2, l3, l4] [.int y, .int x] m Q ↔ if x = y then AW d 227 33 [l0, l1, l2, l3, l4] [] m Q else AW d 227 76 [l0, l1, l2, l3, l4] [] m Q := A_icmp_ne hB_X12_holding dX12_holding_30 (by decide)
theorem dX12_holding_33 : decode cX12_holding 33 = .ok (.aload_n 0, 1) := by decide +kernel
theorem tX12_holding_33 {d : Nat} {l1 l2 l3 l4 : Option Value} {x : Nat} {m : jmM} {Q : Option Value → jmM → Prop} : AW d 227 33 [some (.ref x), l1, l2, l3, l4] [] m Q ↔ AW d 227 34 [some (.ref x), l1, l2, l3, l4] [.ref x] m Q := A_aload_n hB_X12_holding dX12_holding_33 rfl
theorem dX12_holding_34 : decode cX12_holding 34 = .ok (.getfield 20, 3) := by decide +kernel
theorem tX12_holding_34 {d : Nat} {l0 l1 l2 l3 l4 : Option Value} {a : Nat} {m : jmM} {Q : Option Value → jmM → Prop} : AW d 227 34 [l0, l1, l2, l3, l4] [.ref a] m Q ↔ (mS m a).1 = 12 ∧ AW d 227 37 [l0, l1, l2, l3, l4] [va_rf (mR m a 4)] m Q := A_getfield (f := fun m a => va_rf (mR m a 4)) hB_X12_holding dX12_holding_34 hO_X12_holding fF_12_20 rfl
theorem dX12_holding_37 : decode cX12_holding 37 = .ok (.iload 4, 2) := by decide +kernel
theorem tX12_holding_37 {d : Nat} {l0 l1 l2 l3 : Option Value} {v0 : Value} {x : Int32} {m : jmM} {Q : Option Value → jmM → Prop} : AW d 227 37 [l0, l1, l2, l3, some (.int x)] [v0] m Q ↔ AW d 227 39 [l0, l1, l2, l3, some (.int x)] [.int x, v0] m Q := A_iload hB_X12_holding dX12_holding_37 rfl
theorem dX12_holding_39 : decode cX12_holding 39 = .ok (.iconst 3, 1) := by decide +kernel
theorem tX12_holding_39 {d : Nat} {l0 l1 l2 l3 l4 : Option Value} {v0 v1 : Value} {m : jmM} {Q : Option Value → jmM → Prop} : AW d 227 39 [l0, l1, l2, l3, l4] [v0, v1] m Q ↔ AW d 227 40 [l0, l1, l2, l3, l4] [.int 3, v0, v1] m Q := A_iconst hB_X12_holding dX12_holding_39 (by decide)
theorem dX12_holding_40 : decode cX12_holding 40 = .ok (.iadd, 1) := by decide +kernel
theorem tX12_holding_40 {d : Nat} {l0 l1 l2 l3 l4 : Option Value} {v2 : Value} {x y : Int32} {m : jmM} {Q : Option Value → jmM → Prop} : AW d 227 40 [l0, l1, l2, l3, l4] [.int y, .int x, v2] m Q ↔ AW d 227 41 [l0, l1, l2, l3, l4] [.int (x + y), v2] m Q := A_iadd hB_X12_holding dX12_holding_40
theorem dX12_holding_41 : decode cX12_holding 41 = .ok (.iaload, 1) := by decide +kernel
theorem tX12_holding_41 {d : Nat} {l0 l1 l2 l3 l4 : Option Value} {i : Int32} {a : Nat} {m : jmM} {Q : Option Value → jmM → Prop} : AW d 227 41 [l0, l1, l2, l3, l4] [.int i, .ref a] m Q ↔ (((mS m a).1 = 20 ∨ a = jScr) ∧ jIx i (mS m a).2) ∧ AW d 227 42 [l0, l1, l2, l3, l4] [.int (mI m a (jx i))] m Q := A_iaload hB_X12_holding dX12_holding_41
theorem dX12_holding_42 : decode cX12_holding 42 = .ok (.ifCond .lt 31, 3) := by decide +kernel
theorem tX12_holding_42 {d : Nat} {l0 l1 l2 l3 l4 : Option Value} {x : Int32} {m : jmM} {Q : Option Value → jmM → Prop} : AW d 227 42 [l0, l1, l2, l3, l4] [.int x] m Q ↔ if x < 0 then AW d 227 73 [l0, l1, l2, l3, l4] [] m Q else AW d 227 45 [l0, l1, l2, l3, l4] [] m Q := A_if_lt hB_X12_holding dX12_holding_42 (by decide)
theorem dX12_holding_45 : decode cX12_holding 45 = .ok (.aload_n 0, 1) := by decide +kernel
theorem tX12_holding_45 {d : Nat} {l1 l2 l3 l4 : Option Value} {x : Nat} {m : jmM} {Q : Option Value → jmM → Prop} : AW d 227 45 [some (.ref x), l1, l2, l3, l4] [] m Q ↔ AW d 227 46 [some (.ref x), l1, l2, l3, l4] [.ref x] m Q := A_aload_n hB_X12_holding dX12_holding_45 rfl
theorem dX12_holding_46 : decode cX12_holding 46 = .ok (.iload_n 1, 1) := by decide +kernel
theorem tX12_holding_46 {d : Nat} {l0 l2 l3 l4 : Option Value} {v0 : Value} {x : Int32} {m : jmM} {Q : Option Value → jmM → Prop} : AW d 227 46 [l0, some (.int x), l2, l3, l4] [v0] m Q ↔ AW d 227 47 [l0, some (.int x), l2, l3, l4] [.int x, v0] m Q := A_iload_n hB_X12_holding dX12_holding_46 rfl
theorem dX12_holding_47 : decode cX12_holding 47 = .ok (.aload_n 0, 1) := by decide +kernel
theorem tX12_holding_47 {d : Nat} {l1 l2 l3 l4 : Option Value} {v0 v1 : Value} {x : Nat} {m : jmM} {Q : Option Value → jmM → Prop} : AW d 227 47 [some (.ref x), l1, l2, l3, l4] [v0, v1] m Q ↔ AW d 227 48 [some (.ref x), l1, l2, l3, l4] [.ref x, v0, v1] m Q := A_aload_n hB_X12_holding dX12_holding_47 rfl
theorem dX12_holding_48 : decode cX12_holding 48 = .ok (.getfield 20, 3) := by decide +kernel
theorem tX12_holding_48 {d : Nat} {l0 l1 l2 l3 l4 : Option Value} {v1 v2 : Value} {a : Nat} {m : jmM} {Q : Option Value → jmM → Prop} : AW d 227 48 [l0, l1, l2, l3, l4] [.ref a, v1, v2] m Q ↔ (mS m a).1 = 12 ∧ AW d 227 51 [l0, l1, l2, l3, l4] [va_rf (mR m a 4), v1, v2] m Q := A_getfield (f := fun m a => va_rf (mR m a 4)) hB_X12_holding dX12_holding_48 hO_X12_holding fF_12_20 rfl
theorem dX12_holding_51 : decode cX12_holding 51 = .ok (.iload 4, 2) := by decide +kernel
theorem tX12_holding_51 {d : Nat} {l0 l1 l2 l3 : Option Value} {v0 v1 v2 : Value} {x : Int32} {m : jmM} {Q : Option Value → jmM → Prop} : AW d 227 51 [l0, l1, l2, l3, some (.int x)] [v0, v1, v2] m Q ↔ AW d 227 53 [l0, l1, l2, l3, some (.int x)] [.int x, v0, v1, v2] m Q := A_iload hB_X12_holding dX12_holding_51 rfl
theorem dX12_holding_53 : decode cX12_holding 53 = .ok (.iconst 3, 1) := by decide +kernel
theorem tX12_holding_53 {d : Nat} {l0 l1 l2 l3 l4 : Option Value} {v0 v1 v2 v3 : Value} {m : jmM} {Q : Option Value → jmM → Prop} : AW d 227 53 [l0, l1, l2, l3, l4] [v0, v1, v2, v3] m Q ↔ AW d 227 54 [l0, l1, l2, l3, l4] [.int 3, v0, v1, v2, v3] m Q := A_iconst hB_X12_holding dX12_holding_53 (by decide)
theorem dX12_holding_54 : decode cX12_holding 54 = .ok (.iadd, 1) := by decide +kernel
theorem tX12_holding_54 {d : Nat} {l0 l1 l2 l3 l4 : Option Value} {v2 v3 v4 : Value} {x y : Int32} {m : jmM} {Q : Option Value → jmM → Prop} : AW d 227 54 [l0, l1, l2, l3, l4] [.int y, .int x, v2, v3, v4] m Q ↔ AW d 227 55 [l0, l1, l2, l3, l4] [.int (x + y), v2, v3, v4] m Q := A_iadd hB_X12_holding dX12_holding_54
theorem dX12_holding_55 : decode cX12_holding 55 = .ok (.iaload, 1) := by decide +kernel
theorem tX12_holding_55 {d : Nat} {l0 l1 l2 l3 l4 : Option Value} {v2 v3 : Value} {i : Int32} {a : Nat} {m : jmM} {Q : Option Value → jmM → Prop} : AW d 227 55 [l0, l1, l2, l3, l4] [.int i, .ref a, v2, v3] m Q ↔ (((mS m a).1 = 20 ∨ a = jScr) ∧ jIx i (mS m a).2) ∧ AW d 227 56 [l0, l1, l2, l3, l4] [.int (mI m a (jx i)), v2, v3] m Q := A_iaload hB_X12_holding dX12_holding_55
theorem dX12_holding_56 : decode cX12_holding 56 = .ok (.aload_n 0, 1) := by decide +kernel
theorem tX12_holding_56 {d : Nat} {l1 l2 l3 l4 : Option Value} {v0 v1 v2 : Value} {x : Nat} {m : jmM} {Q : Option Value → jmM → Prop} : AW d 227 56 [some (.ref x), l1, l2, l3, l4] [v0, v1, v2] m Q ↔ AW d 227 57 [some (.ref x), l1, l2, l3, l4] [.ref x, v0, v1, v2] m Q := A_aload_n hB_X12_holding dX12_holding_56 rfl
theorem dX12_holding_57 : decode cX12_holding 57 = .ok (.getfield 20, 3) := by decide +kernel
theorem tX12_holding_57 {d : Nat} {l0 l1 l2 l3 l4 : Option Value} {v1 v2 v3 : Value} {a : Nat} {m : jmM} {Q : Option Value → jmM → Prop} : AW d 227 57 [l0, l1, l2, l3, l4] [.ref a, v1, v2, v3] m Q ↔ (mS m a).1 = 12 ∧ AW d 227 60 [l0, l1, l2, l3, l4] [va_rf (mR m a 4), v1, v2, v3] m Q := A_getfield (f := fun m a => va_rf (mR m a 4)) hB_X12_holding dX12_holding_57 hO_X12_holding fF_12_20 rfl
theorem dX12_holding_60 : decode cX12_holding 60 = .ok (.iload 4, 2) := by decide +kernel
theorem tX12_holding_60 {d : Nat} {l0 l1 l2 l3 : Option Value} {v0 v1 v2 v3 : Value} {x : Int32} {m : jmM} {Q : Option Value → jmM → Prop} : AW d 227 60 [l0, l1, l2, l3, some (.int x)] [v0, v1, v2, v3] m Q ↔ AW d 227 62 [l0, l1, l2, l3, some (.int x)] [.int x, v0, v1, v2, v3] m Q := A_iload hB_X12_holding dX12_holding_60 rfl
theorem dX12_holding_62 : decode cX12_holding 62 = .ok (.iconst 4, 1) := by decide +kernel
theorem tX12_holding_62 {d : Nat} {l0 l1 l2 l3 l4 : Option Value} {v0 v1 v2 v3 v4 : Value} {m : jmM} {Q : Option Value → jmM → Prop} : AW d 227 62 [l0, l1, l2, l3, l4] [v0, v1, v2, v3, v4] m Q ↔ AW d 227 63 [l0, l1, l2, l3, l4] [.int 4, v0, v1, v2, v3, v4] m Q := A_iconst hB_X12_holding dX12_holding_62 (by decide)
theorem dX12_holding_63 : decode cX12_holding 63 = .ok (.iadd, 1) := by decide +kernel
theorem tX12_holding_63 {d : Nat} {l0 l1 l2 l3 l4 : Option Value} {v2 v3 v4 v5 : Value} {x y : Int32} {m : jmM} {Q : Option Value → jmM → Prop} : AW d 227 63 [l0, l1, l2, l3, l4] [.int y, .int x, v2, v3, v4, v5] m Q ↔ AW d 227 64 [l0, l1, l2, l3, l4] [.int (x + y), v2, v3, v4, v5] m Q := A_iadd hB_X12_holding dX12_holding_63
theorem dX12_holding_64 : decode cX12_holding 64 = .ok (.iaload, 1) := by decide +kernel
theorem tX12_holding_64 {d : Nat} {l0 l1 l2 l3 l4 : Option Value} {v2 v3 v4 : Value} {i : Int32} {a : Nat} {m : jmM} {Q : Option Value → jmM → Prop} : AW d 227 64 [l0, l1, l2, l3, l4] [.int i, .ref a, v2, v3, v4] m Q ↔ (((mS m a).1 = 20 ∨ a = jScr) ∧ jIx i (mS m a).2) ∧ AW d 227 65 [l0, l1, l2, l3, l4] [.int (mI m a (jx i)), v2, v3, v4] m Q := A_iaload hB_X12_holding dX12_holding_64
theorem dX12_holding_65 : decode cX12_holding 65 = .ok (.invokevirtual 275, 3) := by decide +kernel
theorem tX12_holding_65 {d : Nat} {l0 l1 l2 l3 l4 : Option Value} {y0 y1 y2 : Value} {a : Nat} {m : jmM} {Q : Option Value → jmM → Prop} : AW d 227 65 [l0, l1, l2, l3, l4] [y0, y1, y2, .ref a] m Q ↔ (mS m a).1 = 12 ∧ CC d 226 [.ref a, y2, y1, y0] m (jK d 227 68 [l0, l1, l2, l3, l4] [] Q) := A_callV hB_X12_holding dX12_holding_65 hO_X12_holding fS_12_275 ⟨Nat.le_of_ble_eq_true rfl, Nat.le_of_ble_eq_true rfl⟩ rfl rfl rfl
theorem dX12_holding_68 : decode cX12_holding 68 = .ok (.lconst 1, 1) := by decide +kernel
theorem tX12_holding_68 {d : Nat} {l0 l1 l2 l3 l4 : Option Value} {v0 : Value} {m : jmM} {Q : Option Value → jmM → Prop} : AW d 227 68 [l0, l1, l2, l3, l4] [v0] m Q ↔ AW d 227 69 [l0, l1, l2, l3, l4] [.long 1, v0] m Q := A_lconst hB_X12_holding dX12_holding_68 (by decide)
theorem dX12_holding_69 : decode cX12_holding 69 = .ok (.lcmp, 1) := by decide +kernel
theorem tX12_holding_69 {d : Nat} {l0 l1 l2 l3 l4 : Option Value} {x y : Int64} {m : jmM} {Q : Option Value → jmM → Prop} : AW d 227 69 [l0, l1, l2, l3, l4] [.long y, .long x] m Q ↔ AW d 227 70 [l0, l1, l2, l3, l4] [.int (lg_cmp x y)] m Q := A_lcmp hB_X12_holding dX12_holding_69
theorem dX12_holding_70 : decode cX12_holding 70 = .ok (.ifCond .ne 6, 3) := by decide +kernel
theorem tX12_holding_70 {d : Nat} {l0 l1 l2 l3 l4 : Option Value} {x : Int32} {m : jmM} {Q : Option Value → jmM → Prop} : AW d 227 70 [l0, l1, l2, l3, l4] [.int x] m Q ↔ if x = 0 then AW d 227 73 [l0, l1, l2, l3, l4] [] m Q else AW d 227 76 [l0, l1, l2, l3, l4] [] m Q := A_if_ne hB_X12_holding dX12_holding_70 (by decide)
theorem dX12_holding_73 : decode cX12_holding 73 = .ok (.iload 4, 2) := by decide +kernel
theorem tX12_holding_73 {d : Nat} {l0 l1 l2 l3 : Option Value} {x : Int32} {m : jmM} {Q : Option Value → jmM → Prop} : AW d 227 73 [l0, l1, l2, l3, some (.int x)] [] m Q ↔ AW d 227 75 [l0, l1, l2, l3, some (.int x)] [.int x] m Q := A_iload hB_X12_holding dX12_holding_73 rfl
theorem dX12_holding_75 : decode cX12_holding 75 = .ok (.ireturn, 1) := by decide +kernel
theorem tX12_holding_75 {d : Nat} {l0 l1 l2 l3 l4 : Option Value} {x : Int32} {m : jmM} {Q : Option Value → jmM → Prop} : AW d 227 75 [l0, l1, l2, l3, l4] [.int x] m Q ↔ Q (some (.int x)) m := A_ireturn hB_X12_holding dX12_holding_75 hR_X12_holding
theorem dX12_holding_76 : decode cX12_holding 76 = .ok (.iinc 3 1, 3) := by decide +kernel
theorem tX12_holding_76 {d : Nat} {l0 l1 l2 l4 : Option Value} {x : Int32} {m : jmM} {Q : Option Value → jmM → Prop} : AW d 227 76 [l0, l1, l2, some (.int x), l4] [] m Q ↔ AW d 227 79 [l0, l1, jc1 l2, some (.int (x + 1)), l4] [] m Q := A_iinc hB_X12_holding dX12_holding_76 rfl (Nat.le_of_ble_eq_true rfl) (v := 1) (by decide) rfl
theorem dX12_holding_79 : decode cX12_holding 79 = .ok (.goto (-77), 3) := by decide +kernel
theorem tX12_holding_79 {d : Nat} {l0 l1 l2 l3 l4 : Option Value} {m : jmM} {Q : Option Value → jmM → Prop} : AW d 227 79 [l0, l1, l2, l3, l4] [] m Q ↔ AW d 227 2 [l0, l1, l2, l3, l4] [] m Q := A_goto hB_X12_holding dX12_holding_79 (by decide)
theorem dX12_holding_82 : decode cX12_holding 82 = .ok (.iconst (-1), 1) := by decide +kernel
theorem tX12_holding_82 {d : Nat} {l0 l1 l2 l3 l4 : Option Value} {m : jmM} {Q : Option Value → jmM → Prop} : AW d 227 82 [l0, l1, l2, l3, l4] [] m Q ↔ AW d 227 83 [l0, l1, l2, l3, l4] [.int (-1)] m Q := A_iconst hB_X12_holding dX12_holding_82 (by decide)
theorem dX12_holding_83 : decode cX12_holding 83 = .ok (.ireturn, 1) := by decide +kernel
theorem tX12_holding_83 {d : Nat} {l0 l1 l2 l3 l4 : Option Value} {x : Int32} {m : jmM} {Q : Option Value → jmM → Prop} : AW d 227 83 [l0, l1, l2, l3, l4] [.int x] m Q ↔ Q (some (.int x)) m := A_ireturn hB_X12_holding dX12_holding_83 hR_X12_holding
theorem hB_X12_stuff : jB 228 = cX12_stuff := rfl
theorem hO_X12_stuff : jO 228 = 12 := rfl
theorem hR_X12_stuff : jRt 228 = (some .int) := rfl
theorem nX12_stuff (d : Nat) (x0 : Nat) (x1 : Int32) (x2 : Int32) (x3 : Int32) (m : jmM) (Q : Option Value → jmM → Prop) : CC (d + 1) 228 [.ref x0, .int x1, .int x2, .int x3] m Q ↔ AW d 228 0 [some (.ref x0), some (.int x1), some (.int x2), some (.int x3), none] [] m Q := CC_body (Nat.le_of_ble_eq_true rfl)
theorem dX12_stuff_0 : decode cX12_stuff 0 = .ok (.iload_n 1, 1) := by decide +kernel
theorem tX12_stuff_0 {d : Nat} {l0 l2 l3 l4 : Option Value} {x : Int32} {m : jmM} {Q : Option Value → jmM → Prop} : AW d 228 0 [l0, some (.int x), l2, l3, l4] [] m Q ↔ AW d 228 1 [l0, some (.int x), l2, l3, l4] [.int x] m Q := A_iload_n hB_X12_stuff dX12_stuff_0 rfl
theorem dX12_stuff_1 : decode cX12_stuff 1 = .ok (.i2l, 1) := by decide +kernel
theorem tX12_stuff_1 {d : Nat} {l0 l1 l2 l3 l4 : Option Value} {x : Int32} {m : jmM} {Q : Option Value → jmM → Prop} : AW d 228 1 [l0, l1, l2, l3, l4] [.int x] m Q ↔ AW d 228 2 [l0, l1, l2, l3, l4] [.long x.toInt64] m Q := A_i2l hB_X12_stuff dX12_stuff_1
theorem dX12_stuff_2 : decode cX12_stuff 2 = .ok (.lconst 0, 1) := by decide +kernel
theorem tX12_stuff_2 {d : Nat} {l0 l1 l2 l3 l4 : Option Value} {v0 : Value} {m : jmM} {Q : Option Value → jmM → Prop} : AW d 228 2 [l0, l1, l2, l3, l4] [v0] m Q ↔ AW d 228 3 [l0, l1, l2, l3, l4] [.long 0, v0] m Q := A_lconst hB_X12_stuff dX12_stuff_2 (by decide)
theorem dX12_stuff_3 : decode cX12_stuff 3 = .ok (.ldc2_w 279, 3) := by decide +kernel
theorem tX12_stuff_3 {d : Nat} {l0 l1 l2 l3 l4 : Option Value} {v0 v1 : Value} {m : jmM} {Q : Option Value → jmM → Prop} : AW d 228 3 [l0, l1, l2, l3, l4] [v0, v1] m Q ↔ AW d 228 6 [l0, l1, l2, l3, l4] [.long 5, v0, v1] m Q := A_ldc2_w hB_X12_stuff dX12_stuff_3 hO_X12_stuff fL2_12_279
theorem dX12_stuff_6 : decode cX12_stuff 6 = .ok (.invokestatic 281, 3) := by decide +kernel
theorem tX12_stuff_6 {d : Nat} {l0 l1 l2 l3 l4 : Option Value} {y0 y1 y2 : Value} {m : jmM} {Q : Option Value → jmM → Prop} : AW d 228 6 [l0, l1, l2, l3, l4] [y0, y1, y2] m Q ↔ CC d 189 [y2, y1, y0] m (jK d 228 9 [l0, l1, l2, l3, l4] [] Q) := A_callS0 hB_X12_stuff dX12_stuff_6 hO_X12_stuff fS_12_281 ⟨Nat.le_of_ble_eq_true rfl, Nat.le_of_ble_eq_true rfl⟩ rfl rfl
theorem dX12_stuff_9 : decode cX12_stuff 9 = .ok (.ifCond .eq 35, 3) := by decide +kernel
theorem tX12_stuff_9 {d : Nat} {l0 l1 l2 l3 l4 : Option Value} {x : Int32} {m : jmM} {Q : Option Value → jmM → Prop} : AW d 228 9 [l0, l1, l2, l3, l4] [.int x] m Q ↔ if x = 0 then AW d 228 44 [l0, l1, l2, l3, l4] [] m Q else AW d 228 12 [l0, l1, l2, l3, l4] [] m Q := A_if_eq hB_X12_stuff dX12_stuff_9 (by decide)
theorem dX12_stuff_12 : decode cX12_stuff 12 = .ok (.iload_n 2, 1) := by decide +kernel
theorem tX12_stuff_12 {d : Nat} {l0 l1 l3 l4 : Option Value} {x : Int32} {m : jmM} {Q : Option Value → jmM → Prop} : AW d 228 12 [l0, l1, some (.int x), l3, l4] [] m Q ↔ AW d 228 13 [l0, l1, some (.int x), l3, l4] [.int x] m Q := A_iload_n hB_X12_stuff dX12_stuff_12 rfl
theorem dX12_stuff_13 : decode cX12_stuff 13 = .ok (.i2l, 1) := by decide +kernel
theorem tX12_stuff_13 {d : Nat} {l0 l1 l2 l3 l4 : Option Value} {x : Int32} {m : jmM} {Q : Option Value → jmM → Prop} : AW d 228 13 [l0, l1, l2, l3, l4] [.int x] m Q ↔ AW d 228 14 [l0, l1, l2, l3, l4] [.long x.toInt64] m Q := A_i2l hB_X12_stuff dX12_stuff_13
theorem dX12_stuff_14 : decode cX12_stuff 14 = .ok (.lconst 0, 1) := by decide +kernel
theorem tX12_stuff_14 {d : Nat} {l0 l1 l2 l3 l4 : Option Value} {v0 : Value} {m : jmM} {Q : Option Value → jmM → Prop} : AW d 228 14 [l0, l1, l2, l3, l4] [v0] m Q ↔ AW d 228 15 [l0, l1, l2, l3, l4] [.long 0, v0] m Q := A_lconst hB_X12_stuff dX12_stuff_14 (by decide)
theorem dX12_stuff_15 : decode cX12_stuff 15 = .ok (.lconst 1, 1) := by decide +kernel
theorem tX12_stuff_15 {d : Nat} {l0 l1 l2 l3 l4 : Option Value} {v0 v1 : Value} {m : jmM} {Q : Option Value → jmM → Prop} : AW d 228 15 [l0, l1, l2, l3, l4] [v0, v1] m Q ↔ AW d 228 16 [l0, l1, l2, l3, l4] [.long 1, v0, v1] m Q := A_lconst hB_X12_stuff dX12_stuff_15 (by decide)
theorem dX12_stuff_16 : decode cX12_stuff 16 = .ok (.invokestatic 281, 3) := by decide +kernel
theorem tX12_stuff_16 {d : Nat} {l0 l1 l2 l3 l4 : Option Value} {y0 y1 y2 : Value} {m : jmM} {Q : Option Value → jmM → Prop} : AW d 228 16 [l0, l1, l2, l3, l4] [y0, y1, y2] m Q ↔ CC d 189 [y2, y1, y0] m (jK d 228 19 [l0, l1, l2, l3, l4] [] Q) := A_callS0 hB_X12_stuff dX12_stuff_16 hO_X12_stuff fS_12_281 ⟨Nat.le_of_ble_eq_true rfl, Nat.le_of_ble_eq_true rfl⟩ rfl rfl
theorem dX12_stuff_19 : decode cX12_stuff 19 = .ok (.ifCond .eq 25, 3) := by decide +kernel
theorem tX12_stuff_19 {d : Nat} {l0 l1 l2 l3 l4 : Option Value} {x : Int32} {m : jmM} {Q : Option Value → jmM → Prop} : AW d 228 19 [l0, l1, l2, l3, l4] [.int x] m Q ↔ if x = 0 then AW d 228 44 [l0, l1, l2, l3, l4] [] m Q else AW d 228 22 [l0, l1, l2, l3, l4] [] m Q := A_if_eq hB_X12_stuff dX12_stuff_19 (by decide)
theorem dX12_stuff_22 : decode cX12_stuff 22 = .ok (.iload_n 3, 1) := by decide +kernel
theorem tX12_stuff_22 {d : Nat} {l0 l1 l2 l4 : Option Value} {x : Int32} {m : jmM} {Q : Option Value → jmM → Prop} : AW d 228 22 [l0, l1, l2, some (.int x), l4] [] m Q ↔ AW d 228 23 [l0, l1, l2, some (.int x), l4] [.int x] m Q := A_iload_n hB_X12_stuff dX12_stuff_22 rfl
theorem dX12_stuff_23 : decode cX12_stuff 23 = .ok (.i2l, 1) := by decide +kernel
theorem tX12_stuff_23 {d : Nat} {l0 l1 l2 l3 l4 : Option Value} {x : Int32} {m : jmM} {Q : Option Value → jmM → Prop} : AW d 228 23 [l0, l1, l2, l3, l4] [.int x] m Q ↔ AW d 228 24 [l0, l1, l2, l3, l4] [.long x.toInt64] m Q := A_i2l hB_X12_stuff dX12_stuff_23
theorem dX12_stuff_24 : decode cX12_stuff 24 = .ok (.lconst 0, 1) := by decide +kernel
theorem tX12_stuff_24 {d : Nat} {l0 l1 l2 l3 l4 : Option Value} {v0 : Value} {m : jmM} {Q : Option Value → jmM → Prop} : AW d 228 24 [l0, l1, l2, l3, l4] [v0] m Q ↔ AW d 228 25 [l0, l1, l2, l3, l4] [.long 0, v0] m Q := A_lconst hB_X12_stuff dX12_stuff_24 (by decide)
theorem dX12_stuff_25 : decode cX12_stuff 25 = .ok (.iload_n 2, 1) := by decide +kernel
theorem tX12_stuff_25 {d : Nat} {l0 l1 l3 l4 : Option Value} {v0 v1 : Value} {x : Int32} {m : jmM} {Q : Option Value → jmM → Prop} : AW d 228 25 [l0, l1, some (.int x), l3, l4] [v0, v1] m Q ↔ AW d 228 26 [l0, l1, some (.int x), l3, l4] [.int x, v0, v1] m Q := A_iload_n hB_X12_stuff dX12_stuff_25 rfl
theorem dX12_stuff_26 : decode cX12_stuff 26 = .ok (.ifCond .ne 9, 3) := by decide +kernel
theorem tX12_stuff_26 {d : Nat} {l0 l1 l2 l3 l4 : Option Value} {v1 v2 : Value} {x : Int32} {m : jmM} {Q : Option Value → jmM → Prop} : AW d 228 26 [l0, l1, l2, l3, l4] [.int x, v1, v2] m Q ↔ if x = 0 then AW d 228 29 [l0, l1, l2, l3, l4] [v1, v2] m Q else AW d 228 35 [l0, l1, l2, l3, l4] [v1, v2] m Q := A_if_ne hB_X12_stuff dX12_stuff_26 (by decide)
theorem dX12_stuff_29 : decode cX12_stuff 29 = .ok (.ldc2_w 285, 3) := by decide +kernel
theorem tX12_stuff_29 {d : Nat} {l0 l1 l2 l3 l4 : Option Value} {v0 v1 : Value} {m : jmM} {Q : Option Value → jmM → Prop} : AW d 228 29 [l0, l1, l2, l3, l4] [v0, v1] m Q ↔ AW d 228 32 [l0, l1, l2, l3, l4] [.long 999999999, v0, v1] m Q := A_ldc2_w hB_X12_stuff dX12_stuff_29 hO_X12_stuff fL2_12_285
theorem dX12_stuff_32 : decode cX12_stuff 32 = .ok (.goto 6, 3) := by decide +kernel
theorem tX12_stuff_32 {d : Nat} {l0 l1 l2 l3 l4 : Option Value} {v0 v1 v2 : Value} {m : jmM} {Q : Option Value → jmM → Prop} : AW d 228 32 [l0, l1, l2, l3, l4] [v0, v1, v2] m Q ↔ AW d 228 38 [l0, l1, l2, l3, l4] [v0, v1, v2] m Q := A_goto hB_X12_stuff dX12_stuff_32 (by decide)
theorem dX12_stuff_35 : decode cX12_stuff 35 = .ok (.ldc2_w 287, 3) := by decide +kernel
theorem tX12_stuff_35 {d : Nat} {l0 l1 l2 l3 l4 : Option Value} {v0 v1 : Value} {m : jmM} {Q : Option Value → jmM → Prop} : AW d 228 35 [l0, l1, l2, l3, l4] [v0, v1] m Q ↔ AW d 228 38 [l0, l1, l2, l3, l4] [.long 2000, v0, v1] m Q := A_ldc2_w hB_X12_stuff dX12_stuff_35 hO_X12_stuff fL2_12_287
theorem dX12_stuff_38 : decode cX12_stuff 38 = .ok (.invokestatic 281, 3) := by decide +kernel
theorem tX12_stuff_38 {d : Nat} {l0 l1 l2 l3 l4 : Option Value} {y0 y1 y2 : Value} {m : jmM} {Q : Option Value → jmM → Prop} : AW d 228 38 [l0, l1, l2, l3, l4] [y0, y1, y2] m Q ↔ CC d 189 [y2, y1, y0] m (jK d 228 41 [l0, l1, l2, l3, l4] [] Q) := A_callS0 hB_X12_stuff dX12_stuff_38 hO_X12_stuff fS_12_281 ⟨Nat.le_of_ble_eq_true rfl, Nat.le_of_ble_eq_true rfl⟩ rfl rfl
theorem dX12_stuff_41 : decode cX12_stuff 41 = .ok (.ifCond .ne 5, 3) := by decide +kernel
theorem tX12_stuff_41 {d : Nat} {l0 l1 l2 l3 l4 : Option Value} {x : Int32} {m : jmM} {Q : Option Value → jmM → Prop} : AW d 228 41 [l0, l1, l2, l3, l4] [.int x] m Q ↔ if x = 0 then AW d 228 44 [l0, l1, l2, l3, l4] [] m Q else AW d 228 46 [l0, l1, l2, l3, l4] [] m Q := A_if_ne hB_X12_stuff dX12_stuff_41 (by decide)
theorem dX12_stuff_44 : decode cX12_stuff 44 = .ok (.iconst (-1), 1) := by decide +kernel
theorem tX12_stuff_44 {d : Nat} {l0 l1 l2 l3 l4 : Option Value} {m : jmM} {Q : Option Value → jmM → Prop} : AW d 228 44 [l0, l1, l2, l3, l4] [] m Q ↔ AW d 228 45 [l0, l1, l2, l3, l4] [.int (-1)] m Q := A_iconst hB_X12_stuff dX12_stuff_44 (by decide)
theorem dX12_stuff_45 : decode cX12_stuff 45 = .ok (.ireturn, 1) := by decide +kernel
theorem tX12_stuff_45 {d : Nat} {l0 l1 l2 l3 l4 : Option Value} {x : Int32} {m : jmM} {Q : Option Value → jmM → Prop} : AW d 228 45 [l0, l1, l2, l3, l4] [.int x] m Q ↔ Q (some (.int x)) m := A_ireturn hB_X12_stuff dX12_stuff_45 hR_X12_stuff
theorem dX12_stuff_46 : decode cX12_stuff 46 = .ok (.iload_n 2, 1) := by decide +kernel
theorem tX12_stuff_46 {d : Nat} {l0 l1 l3 l4 : Option Value} {x : Int32} {m : jmM} {Q : Option Value → jmM → Prop} : AW d 228 46 [l0, l1, some (.int x), l3, l4] [] m Q ↔ AW d 228 47 [l0, l1, some (.int x), l3, l4] [.int x] m Q := A_iload_n hB_X12_stuff dX12_stuff_46 rfl
theorem dX12_stuff_47 : decode cX12_stuff 47 = .ok (.ifCond .ne 12, 3) := by decide +kernel
theorem tX12_stuff_47 {d : Nat} {l0 l1 l2 l3 l4 : Option Value} {x : Int32} {m : jmM} {Q : Option Value → jmM → Prop} : AW d 228 47 [l0, l1, l2, l3, l4] [.int x] m Q ↔ if x = 0 then AW d 228 50 [l0, l1, l2, l3, l4] [] m Q else AW d 228 59 [l0, l1, l2, l3, l4] [] m Q := A_if_ne hB_X12_stuff dX12_stuff_47 (by decide)
theorem dX12_stuff_50 : decode cX12_stuff 50 = .ok (.aload_n 0, 1) := by decide +kernel
theorem tX12_stuff_50 {d : Nat} {l1 l2 l3 l4 : Option Value} {x : Nat} {m : jmM} {Q : Option Value → jmM → Prop} : AW d 228 50 [some (.ref x), l1, l2, l3, l4] [] m Q ↔ AW d 228 51 [some (.ref x), l1, l2, l3, l4] [.ref x] m Q := A_aload_n hB_X12_stuff dX12_stuff_50 rfl
theorem dX12_stuff_51 : decode cX12_stuff 51 = .ok (.getfield 45, 3) := by decide +kernel
theorem tX12_stuff_51 {d : Nat} {l0 l1 l2 l3 l4 : Option Value} {a : Nat} {m : jmM} {Q : Option Value → jmM → Prop} : AW d 228 51 [l0, l1, l2, l3, l4] [.ref a] m Q ↔ (mS m a).1 = 12 ∧ AW d 228 54 [l0, l1, l2, l3, l4] [va_rf (mR m a 23)] m Q := A_getfield (f := fun m a => va_rf (mR m a 23)) hB_X12_stuff dX12_stuff_51 hO_X12_stuff fF_12_45 rfl
theorem dX12_stuff_54 : decode cX12_stuff 54 = .ok (.iload_n 1, 1) := by decide +kernel
theorem tX12_stuff_54 {d : Nat} {l0 l2 l3 l4 : Option Value} {v0 : Value} {x : Int32} {m : jmM} {Q : Option Value → jmM → Prop} : AW d 228 54 [l0, some (.int x), l2, l3, l4] [v0] m Q ↔ AW d 228 55 [l0, some (.int x), l2, l3, l4] [.int x, v0] m Q := A_iload_n hB_X12_stuff dX12_stuff_54 rfl
theorem dX12_stuff_55 : decode cX12_stuff 55 = .ok (.iaload, 1) := by decide +kernel
theorem tX12_stuff_55 {d : Nat} {l0 l1 l2 l3 l4 : Option Value} {i : Int32} {a : Nat} {m : jmM} {Q : Option Value → jmM → Prop} : AW d 228 55 [l0, l1, l2, l3, l4] [.int i, .ref a] m Q ↔ (((mS m a).1 = 20 ∨ a = jScr) ∧ jIx i (mS m a).2) ∧ AW d 228 56 [l0, l1, l2, l3, l4] [.int (mI m a (jx i))] m Q := A_iaload hB_X12_stuff dX12_stuff_55
theorem dX12_stuff_56 : decode cX12_stuff 56 = .ok (.goto 9, 3) := by decide +kernel
theorem tX12_stuff_56 {d : Nat} {l0 l1 l2 l3 l4 : Option Value} {v0 : Value} {m : jmM} {Q : Option Value → jmM → Prop} : AW d 228 56 [l0, l1, l2, l3, l4] [v0] m Q ↔ AW d 228 65 [l0, l1, l2, l3, l4] [v0] m Q := A_goto hB_X12_stuff dX12_stuff_56 (by decide)
theorem dX12_stuff_59 : decode cX12_stuff 59 = .ok (.aload_n 0, 1) := by decide +kernel
theorem tX12_stuff_59 {d : Nat} {l1 l2 l3 l4 : Option Value} {x : Nat} {m : jmM} {Q : Option Value → jmM → Prop} : AW d 228 59 [some (.ref x), l1, l2, l3, l4] [] m Q ↔ AW d 228 60 [some (.ref x), l1, l2, l3, l4] [.ref x] m Q := A_aload_n hB_X12_stuff dX12_stuff_59 rfl
theorem dX12_stuff_60 : decode cX12_stuff 60 = .ok (.getfield 48, 3) := by decide +kernel
theorem tX12_stuff_60 {d : Nat} {l0 l1 l2 l3 l4 : Option Value} {a : Nat} {m : jmM} {Q : Option Value → jmM → Prop} : AW d 228 60 [l0, l1, l2, l3, l4] [.ref a] m Q ↔ (mS m a).1 = 12 ∧ AW d 228 63 [l0, l1, l2, l3, l4] [va_rf (mR m a 24)] m Q := A_getfield (f := fun m a => va_rf (mR m a 24)) hB_X12_stuff dX12_stuff_60 hO_X12_stuff fF_12_48 rfl
theorem dX12_stuff_63 : decode cX12_stuff 63 = .ok (.iload_n 1, 1) := by decide +kernel
theorem tX12_stuff_63 {d : Nat} {l0 l2 l3 l4 : Option Value} {v0 : Value} {x : Int32} {m : jmM} {Q : Option Value → jmM → Prop} : AW d 228 63 [l0, some (.int x), l2, l3, l4] [v0] m Q ↔ AW d 228 64 [l0, some (.int x), l2, l3, l4] [.int x, v0] m Q := A_iload_n hB_X12_stuff dX12_stuff_63 rfl
theorem dX12_stuff_64 : decode cX12_stuff 64 = .ok (.iaload, 1) := by decide +kernel
theorem tX12_stuff_64 {d : Nat} {l0 l1 l2 l3 l4 : Option Value} {i : Int32} {a : Nat} {m : jmM} {Q : Option Value → jmM → Prop} : AW d 228 64 [l0, l1, l2, l3, l4] [.int i, .ref a] m Q ↔ (((mS m a).1 = 20 ∨ a = jScr) ∧ jIx i (mS m a).2) ∧ AW d 228 65 [l0, l1, l2, l3, l4] [.int (mI m a (jx i))] m Q := A_iaload hB_X12_stuff dX12_stuff_64
theorem dX12_stuff_65 : decode cX12_stuff 65 = .ok (.istore 4, 2) := by decide +kernel
theorem tX12_stuff_65 {d : Nat} {l0 l1 l2 l3 l4 : Option Value} {x : Int32} {m : jmM} {Q : Option Value → jmM → Prop} : AW d 228 65 [l0, l1, l2, l3, l4] [.int x] m Q ↔ AW d 228 67 [l0, l1, l2, jc1 l3, some (.int x)] [] m Q := A_istore hB_X12_stuff dX12_stuff_65 (Nat.le_of_ble_eq_true rfl) rfl
theorem dX12_stuff_67 : decode cX12_stuff 67 = .ok (.iload_n 2, 1) := by decide +kernel
theorem tX12_stuff_67 {d : Nat} {l0 l1 l3 l4 : Option Value} {x : Int32} {m : jmM} {Q : Option Value → jmM → Prop} : AW d 228 67 [l0, l1, some (.int x), l3, l4] [] m Q ↔ AW d 228 68 [l0, l1, some (.int x), l3, l4] [.int x] m Q := A_iload_n hB_X12_stuff dX12_stuff_67 rfl
theorem dX12_stuff_68 : decode cX12_stuff 68 = .ok (.ifCond .ne 13, 3) := by decide +kernel
theorem tX12_stuff_68 {d : Nat} {l0 l1 l2 l3 l4 : Option Value} {x : Int32} {m : jmM} {Q : Option Value → jmM → Prop} : AW d 228 68 [l0, l1, l2, l3, l4] [.int x] m Q ↔ if x = 0 then AW d 228 71 [l0, l1, l2, l3, l4] [] m Q else AW d 228 81 [l0, l1, l2, l3, l4] [] m Q := A_if_ne hB_X12_stuff dX12_stuff_68 (by decide)
theorem dX12_stuff_71 : decode cX12_stuff 71 = .ok (.aload_n 0, 1) := by decide +kernel
theorem tX12_stuff_71 {d : Nat} {l1 l2 l3 l4 : Option Value} {x : Nat} {m : jmM} {Q : Option Value → jmM → Prop} : AW d 228 71 [some (.ref x), l1, l2, l3, l4] [] m Q ↔ AW d 228 72 [some (.ref x), l1, l2, l3, l4] [.ref x] m Q := A_aload_n hB_X12_stuff dX12_stuff_71 rfl
theorem dX12_stuff_72 : decode cX12_stuff 72 = .ok (.getfield 45, 3) := by decide +kernel
theorem tX12_stuff_72 {d : Nat} {l0 l1 l2 l3 l4 : Option Value} {a : Nat} {m : jmM} {Q : Option Value → jmM → Prop} : AW d 228 72 [l0, l1, l2, l3, l4] [.ref a] m Q ↔ (mS m a).1 = 12 ∧ AW d 228 75 [l0, l1, l2, l3, l4] [va_rf (mR m a 23)] m Q := A_getfield (f := fun m a => va_rf (mR m a 23)) hB_X12_stuff dX12_stuff_72 hO_X12_stuff fF_12_45 rfl
theorem dX12_stuff_75 : decode cX12_stuff 75 = .ok (.iload_n 1, 1) := by decide +kernel
theorem tX12_stuff_75 {d : Nat} {l0 l2 l3 l4 : Option Value} {v0 : Value} {x : Int32} {m : jmM} {Q : Option Value → jmM → Prop} : AW d 228 75 [l0, some (.int x), l2, l3, l4] [v0] m Q ↔ AW d 228 76 [l0, some (.int x), l2, l3, l4] [.int x, v0] m Q := A_iload_n hB_X12_stuff dX12_stuff_75 rfl
theorem dX12_stuff_76 : decode cX12_stuff 76 = .ok (.iload_n 3, 1) := by decide +kernel
theorem tX12_stuff_76 {d : Nat} {l0 l1 l2 l4 : Option Value} {v0 v1 : Value} {x : Int32} {m : jmM} {Q : Option Value → jmM → Prop} : AW d 228 76 [l0, l1, l2, some (.int x), l4] [v0, v1] m Q ↔ AW d 228 77 [l0, l1, l2, some (.int x), l4] [.int x, v0, v1] m Q := A_iload_n hB_X12_stuff dX12_stuff_76 rfl
theorem dX12_stuff_77 : decode cX12_stuff 77 = .ok (.iastore, 1) := by decide +kernel
theorem tX12_stuff_77 {d : Nat} {l0 l1 l2 l3 l4 : Option Value} {x i : Int32} {a : Nat} {m : jmM} {Q : Option Value → jmM → Prop} : AW d 228 77 [l0, l1, l2, l3, l4] [.int x, .int i, .ref a] m Q ↔ ((mS m a).1 = 20 ∧ jIx i (mS m a).2) ∧ AW d 228 78 [l0, l1, l2, l3, l4] [] (cI m a (jup (mI m a) (jx i) x)) Q := A_iastore hB_X12_stuff dX12_stuff_77
theorem dX12_stuff_78 : decode cX12_stuff 78 = .ok (.goto 10, 3) := by decide +kernel
theorem tX12_stuff_78 {d : Nat} {l0 l1 l2 l3 l4 : Option Value} {m : jmM} {Q : Option Value → jmM → Prop} : AW d 228 78 [l0, l1, l2, l3, l4] [] m Q ↔ AW d 228 88 [l0, l1, l2, l3, l4] [] m Q := A_goto hB_X12_stuff dX12_stuff_78 (by decide)
theorem dX12_stuff_81 : decode cX12_stuff 81 = .ok (.aload_n 0, 1) := by decide +kernel
theorem tX12_stuff_81 {d : Nat} {l1 l2 l3 l4 : Option Value} {x : Nat} {m : jmM} {Q : Option Value → jmM → Prop} : AW d 228 81 [some (.ref x), l1, l2, l3, l4] [] m Q ↔ AW d 228 82 [some (.ref x), l1, l2, l3, l4] [.ref x] m Q := A_aload_n hB_X12_stuff dX12_stuff_81 rfl
theorem dX12_stuff_82 : decode cX12_stuff 82 = .ok (.getfield 48, 3) := by decide +kernel
theorem tX12_stuff_82 {d : Nat} {l0 l1 l2 l3 l4 : Option Value} {a : Nat} {m : jmM} {Q : Option Value → jmM → Prop} : AW d 228 82 [l0, l1, l2, l3, l4] [.ref a] m Q ↔ (mS m a).1 = 12 ∧ AW d 228 85 [l0, l1, l2, l3, l4] [va_rf (mR m a 24)] m Q := A_getfield (f := fun m a => va_rf (mR m a 24)) hB_X12_stuff dX12_stuff_82 hO_X12_stuff fF_12_48 rfl
theorem dX12_stuff_85 : decode cX12_stuff 85 = .ok (.iload_n 1, 1) := by decide +kernel
theorem tX12_stuff_85 {d : Nat} {l0 l2 l3 l4 : Option Value} {v0 : Value} {x : Int32} {m : jmM} {Q : Option Value → jmM → Prop} : AW d 228 85 [l0, some (.int x), l2, l3, l4] [v0] m Q ↔ AW d 228 86 [l0, some (.int x), l2, l3, l4] [.int x, v0] m Q := A_iload_n hB_X12_stuff dX12_stuff_85 rfl
theorem dX12_stuff_86 : decode cX12_stuff 86 = .ok (.iload_n 3, 1) := by decide +kernel
theorem tX12_stuff_86 {d : Nat} {l0 l1 l2 l4 : Option Value} {v0 v1 : Value} {x : Int32} {m : jmM} {Q : Option Value → jmM → Prop} : AW d 228 86 [l0, l1, l2, some (.int x), l4] [v0, v1] m Q ↔ AW d 228 87 [l0, l1, l2, some (.int x), l4] [.int x, v0, v1] m Q := A_iload_n hB_X12_stuff dX12_stuff_86 rfl
theorem dX12_stuff_87 : decode cX12_stuff 87 = .ok (.iastore, 1) := by decide +kernel
theorem tX12_stuff_87 {d : Nat} {l0 l1 l2 l3 l4 : Option Value} {x i : Int32} {a : Nat} {m : jmM} {Q : Option Value → jmM → Prop} : AW d 228 87 [l0, l1, l2, l3, l4] [.int x, .int i, .ref a] m Q ↔ ((mS m a).1 = 20 ∧ jIx i (mS m a).2) ∧ AW d 228 88 [l0, l1, l2, l3, l4] [] (cI m a (jup (mI m a) (jx i) x)) Q := A_iastore hB_X12_stuff dX12_stuff_87
theorem dX12_stuff_88 : decode cX12_stuff 88 = .ok (.iload 4, 2) := by decide +kernel
theorem tX12_stuff_88 {d : Nat} {l0 l1 l2 l3 : Option Value} {x : Int32} {m : jmM} {Q : Option Value → jmM → Prop} : AW d 228 88 [l0, l1, l2, l3, some (.int x)] [] m Q ↔ AW d 228 90 [l0, l1, l2, l3, some (.int x)] [.int x] m Q := A_iload hB_X12_stuff dX12_stuff_88 rfl
theorem dX12_stuff_90 : decode cX12_stuff 90 = .ok (.ireturn, 1) := by decide +kernel
theorem tX12_stuff_90 {d : Nat} {l0 l1 l2 l3 l4 : Option Value} {x : Int32} {m : jmM} {Q : Option Value → jmM → Prop} : AW d 228 90 [l0, l1, l2, l3, l4] [.int x] m Q ↔ Q (some (.int x)) m := A_ireturn hB_X12_stuff dX12_stuff_90 hR_X12_stuff
theorem hB_X12_rowOf : jB 229 = cX12_rowOf := rfl
theorem hO_X12_rowOf : jO 229 = 12 := rfl
theorem hR_X12_rowOf : jRt 229 = (some .int) := rfl
theorem nX12_rowOf (d : Nat) (x0 : Nat) (x1 : Int32) (x2 : Int32) (m : jmM) (Q : Option Value → jmM → Prop) : CC (d + 1) 229 [.ref x0, .int x1, .int x2] m Q ↔ AW d 229 0 [some (.ref x0), some (.int x1), some (.int x2)] [] m Q := CC_body (Nat.le_of_ble_eq_true rfl)
theorem dX12_rowOf_0 : decode cX12_rowOf 0 = .ok (.aload_n 0, 1) := by decide +kernel
theorem tX12_rowOf_0 {d : Nat} {l1 l2 : Option Value} {x : Nat} {m : jmM} {Q : Option Value → jmM → Prop} : AW d 229 0 [some (.ref x), l1, l2] [] m Q ↔ AW d 229 1 [some (.ref x), l1, l2] [.ref x] m Q := A_aload_n hB_X12_rowOf dX12_rowOf_0 rfl
theorem dX12_rowOf_1 : decode cX12_rowOf 1 = .ok (.getfield 63, 3) := by decide +kernel
theorem tX12_rowOf_1 {d : Nat} {l0 l1 l2 : Option Value} {a : Nat} {m : jmM} {Q : Option Value → jmM → Prop} : AW d 229 1 [l0, l1, l2] [.ref a] m Q ↔ (mS m a).1 = 12 ∧ AW d 229 4 [l0, l1, l2] [va_rf (mR m a 29)] m Q := A_getfield (f := fun m a => va_rf (mR m a 29)) hB_X12_rowOf dX12_rowOf_1 hO_X12_rowOf fF_12_63 rfl
theorem dX12_rowOf_4 : decode cX12_rowOf 4 = .ok (.bipush 6, 2) := by decide +kernel
theorem tX12_rowOf_4 {d : Nat} {l0 l1 l2 : Option Value} {v0 : Value} {m : jmM} {Q : Option Value → jmM → Prop} : AW d 229 4 [l0, l1, l2] [v0] m Q ↔ AW d 229 6 [l0, l1, l2] [.int 6, v0] m Q := A_bipush hB_X12_rowOf dX12_rowOf_4 rfl
theorem dX12_rowOf_6 : decode cX12_rowOf 6 = .ok (.iload_n 1, 1) := by decide +kernel
theorem tX12_rowOf_6 {d : Nat} {l0 l2 : Option Value} {v0 v1 : Value} {x : Int32} {m : jmM} {Q : Option Value → jmM → Prop} : AW d 229 6 [l0, some (.int x), l2] [v0, v1] m Q ↔ AW d 229 7 [l0, some (.int x), l2] [.int x, v0, v1] m Q := A_iload_n hB_X12_rowOf dX12_rowOf_6 rfl
theorem dX12_rowOf_7 : decode cX12_rowOf 7 = .ok (.imul, 1) := by decide +kernel
theorem tX12_rowOf_7 {d : Nat} {l0 l1 l2 : Option Value} {v2 : Value} {x y : Int32} {m : jmM} {Q : Option Value → jmM → Prop} : AW d 229 7 [l0, l1, l2] [.int y, .int x, v2] m Q ↔ AW d 229 8 [l0, l1, l2] [.int (x * y), v2] m Q := A_imul hB_X12_rowOf dX12_rowOf_7
theorem dX12_rowOf_8 : decode cX12_rowOf 8 = .ok (.iload_n 2, 1) := by decide +kernel
theorem tX12_rowOf_8 {d : Nat} {l0 l1 : Option Value} {v0 v1 : Value} {x : Int32} {m : jmM} {Q : Option Value → jmM → Prop} : AW d 229 8 [l0, l1, some (.int x)] [v0, v1] m Q ↔ AW d 229 9 [l0, l1, some (.int x)] [.int x, v0, v1] m Q := A_iload_n hB_X12_rowOf dX12_rowOf_8 rfl
theorem dX12_rowOf_9 : decode cX12_rowOf 9 = .ok (.iadd, 1) := by decide +kernel
theorem tX12_rowOf_9 {d : Nat} {l0 l1 l2 : Option Value} {v2 : Value} {x y : Int32} {m : jmM} {Q : Option Value → jmM → Prop} : AW d 229 9 [l0, l1, l2] [.int y, .int x, v2] m Q ↔ AW d 229 10 [l0, l1, l2] [.int (x + y), v2] m Q := A_iadd hB_X12_rowOf dX12_rowOf_9
theorem dX12_rowOf_10 : decode cX12_rowOf 10 = .ok (.iaload, 1) := by decide +kernel
theorem tX12_rowOf_10 {d : Nat} {l0 l1 l2 : Option Value} {i : Int32} {a : Nat} {m : jmM} {Q : Option Value → jmM → Prop} : AW d 229 10 [l0, l1, l2] [.int i, .ref a] m Q ↔ (((mS m a).1 = 20 ∨ a = jScr) ∧ jIx i (mS m a).2) ∧ AW d 229 11 [l0, l1, l2] [.int (mI m a (jx i))] m Q := A_iaload hB_X12_rowOf dX12_rowOf_10
theorem dX12_rowOf_11 : decode cX12_rowOf 11 = .ok (.ireturn, 1) := by decide +kernel
theorem tX12_rowOf_11 {d : Nat} {l0 l1 l2 : Option Value} {x : Int32} {m : jmM} {Q : Option Value → jmM → Prop} : AW d 229 11 [l0, l1, l2] [.int x] m Q ↔ Q (some (.int x)) m := A_ireturn hB_X12_rowOf dX12_rowOf_11 hR_X12_rowOf
theorem hB_X12_isRow : jB 230 = cX12_isRow := rfl
theorem hO_X12_isRow : jO 230 = 12 := rfl
theorem hR_X12_isRow : jRt 230 = (some .boolean) := rfl
theorem nX12_isRow (d : Nat) (x0 : Nat) (x1 : Int32) (m : jmM) (Q : Option Value → jmM → Prop) : CC (d + 1) 230 [.ref x0, .int x1] m Q ↔ AW d 230 0 [some (.ref x0), some (.int x1)] [] m Q := CC_body (Nat.le_of_ble_eq_true rfl)
theorem dX12_isRow_0 : decode cX12_isRow 0 = .ok (.iload_n 1, 1) := by decide +kernel
theorem tX12_isRow_0 {d : Nat} {l0 : Option Value} {x : Int32} {m : jmM} {Q : Option Value → jmM → Prop} : AW d 230 0 [l0, some (.int x)] [] m Q ↔ AW d 230 1 [l0, some (.int x)] [.int x] m Q := A_iload_n hB_X12_isRow dX12_isRow_0 rfl
theorem dX12_isRow_1 : decode cX12_isRow 1 = .ok (.ifCond .lt 18, 3) := by decide +kernel
theorem tX12_isRow_1 {d : Nat} {l0 l1 : Option Value} {x : Int32} {m : jmM} {Q : Option Value → jmM → Prop} : AW d 230 1 [l0, l1] [.int x] m Q ↔ if x < 0 then AW d 230 19 [l0, l1] [] m Q else AW d 230 4 [l0, l1] [] m Q := A_if_lt hB_X12_isRow dX12_isRow_1 (by decide)
theorem dX12_isRow_4 : decode cX12_isRow 4 = .ok (.iload_n 1, 1) := by decide +kernel
theorem tX12_isRow_4 {d : Nat} {l0 : Option Value} {x : Int32} {m : jmM} {Q : Option Value → jmM → Prop} : AW d 230 4 [l0, some (.int x)] [] m Q ↔ AW d 230 5 [l0, some (.int x)] [.int x] m Q := A_iload_n hB_X12_isRow dX12_isRow_4 rfl
theorem dX12_isRow_5 : decode cX12_isRow 5 = .ok (.aload_n 0, 1) := by decide +kernel
theorem tX12_isRow_5 {d : Nat} {l1 : Option Value} {v0 : Value} {x : Nat} {m : jmM} {Q : Option Value → jmM → Prop} : AW d 230 5 [some (.ref x), l1] [v0] m Q ↔ AW d 230 6 [some (.ref x), l1] [.ref x, v0] m Q := A_aload_n hB_X12_isRow dX12_isRow_5 rfl
theorem dX12_isRow_6 : decode cX12_isRow 6 = .ok (.getfield 51, 3) := by decide +kernel
theorem tX12_isRow_6 {d : Nat} {l0 l1 : Option Value} {v1 : Value} {a : Nat} {m : jmM} {Q : Option Value → jmM → Prop} : AW d 230 6 [l0, l1] [.ref a, v1] m Q ↔ (mS m a).1 = 12 ∧ AW d 230 9 [l0, l1] [va_rf (mR m a 25), v1] m Q := A_getfield (f := fun m a => va_rf (mR m a 25)) hB_X12_isRow dX12_isRow_6 hO_X12_isRow fF_12_51 rfl
theorem dX12_isRow_9 : decode cX12_isRow 9 = .ok (.bipush 15, 2) := by decide +kernel
theorem tX12_isRow_9 {d : Nat} {l0 l1 : Option Value} {v0 v1 : Value} {m : jmM} {Q : Option Value → jmM → Prop} : AW d 230 9 [l0, l1] [v0, v1] m Q ↔ AW d 230 11 [l0, l1] [.int 15, v0, v1] m Q := A_bipush hB_X12_isRow dX12_isRow_9 rfl
theorem dX12_isRow_11 : decode cX12_isRow 11 = .ok (.iaload, 1) := by decide +kernel
theorem tX12_isRow_11 {d : Nat} {l0 l1 : Option Value} {v2 : Value} {i : Int32} {a : Nat} {m : jmM} {Q : Option Value → jmM → Prop} : AW d 230 11 [l0, l1] [.int i, .ref a, v2] m Q ↔ (((mS m a).1 = 20 ∨ a = jScr) ∧ jIx i (mS m a).2) ∧ AW d 230 12 [l0, l1] [.int (mI m a (jx i)), v2] m Q := A_iaload hB_X12_isRow dX12_isRow_11
theorem dX12_isRow_12 : decode cX12_isRow 12 = .ok (.if_icmp .ge 7, 3) := by decide +kernel
theorem tX12_isRow_12 {d : Nat} {l0 l1 : Option Value} {x y : Int32} {m : jmM} {Q : Option Value → jmM → Prop} : AW d 230 12 [l0, l1] [.int y, .int x] m Q ↔ if y ≤ x then AW d 230 19 [l0, l1] [] m Q else AW d 230 15 [l0, l1] [] m Q := A_icmp_ge hB_X12_isRow dX12_isRow_12 (by decide)
theorem dX12_isRow_15 : decode cX12_isRow 15 = .ok (.iconst 1, 1) := by decide +kernel
theorem tX12_isRow_15 {d : Nat} {l0 l1 : Option Value} {m : jmM} {Q : Option Value → jmM → Prop} : AW d 230 15 [l0, l1] [] m Q ↔ AW d 230 16 [l0, l1] [.int 1] m Q := A_iconst hB_X12_isRow dX12_isRow_15 (by decide)
theorem dX12_isRow_16 : decode cX12_isRow 16 = .ok (.goto 4, 3) := by decide +kernel
theorem tX12_isRow_16 {d : Nat} {l0 l1 : Option Value} {v0 : Value} {m : jmM} {Q : Option Value → jmM → Prop} : AW d 230 16 [l0, l1] [v0] m Q ↔ AW d 230 20 [l0, l1] [v0] m Q := A_goto hB_X12_isRow dX12_isRow_16 (by decide)
theorem dX12_isRow_19 : decode cX12_isRow 19 = .ok (.iconst 0, 1) := by decide +kernel
theorem tX12_isRow_19 {d : Nat} {l0 l1 : Option Value} {m : jmM} {Q : Option Value → jmM → Prop} : AW d 230 19 [l0, l1] [] m Q ↔ AW d 230 20 [l0, l1] [.int 0] m Q := A_iconst hB_X12_isRow dX12_isRow_19 (by decide)
theorem dX12_isRow_20 : decode cX12_isRow 20 = .ok (.ireturn, 1) := by decide +kernel
theorem tX12_isRow_20 {d : Nat} {l0 l1 : Option Value} {x : Int32} {m : jmM} {Q : Option Value → jmM → Prop} : AW d 230 20 [l0, l1] [.int x] m Q ↔ jBool x ∧ Q (some (.int x)) m := A_zreturn hB_X12_isRow dX12_isRow_20 hR_X12_isRow
theorem hB_X12_begin : jB 231 = cX12_begin := rfl
theorem hO_X12_begin : jO 231 = 12 := rfl
theorem hR_X12_begin : jRt 231 = (some .boolean) := rfl
theorem nX12_begin (d : Nat) (x0 : Nat) (x1 : Int32) (x2 : Int32) (x3 : Int32) (x4 : Int32) (x5 : Int32) (x6 : Int32) (x7 : Int32) (x8 : Int32) (x9 : Int32) (m : jmM) (Q : Option Value → jmM → Prop) : CC (d + 1) 231 [.ref x0, .int x1, .int x2, .int x3, .int x4, .int x5, .int x6, .int x7, .int x8, .int x9] m Q ↔ AW d 231 0 [some (.ref x0), some (.int x1), some (.int x2), some (.int x3), some (.int x4), some (.int x5), some (.int x6), some (.int x7), some (.int x8), some (.int x9), none] [] m Q := CC_body (Nat.le_of_ble_eq_true rfl)
theorem dX12_begin_0 : decode cX12_begin 0 = .ok (.iload_n 1, 1) := by decide +kernel
theorem tX12_begin_0 {d : Nat} {l0 l2 l3 l4 l5 l6 l7 l8 l9 l10 : Option Value} {x : Int32} {m : jmM} {Q : Option Value → jmM → Prop} : AW d 231 0 [l0, some (.int x), l2, l3, l4, l5, l6, l7, l8, l9, l10] [] m Q ↔ AW d 231 1 [l0, some (.int x), l2, l3, l4, l5, l6, l7, l8, l9, l10] [.int x] m Q := A_iload_n hB_X12_begin dX12_begin_0 rfl
theorem dX12_begin_1 : decode cX12_begin 1 = .ok (.i2l, 1) := by decide +kernel
theorem tX12_begin_1 {d : Nat} {l0 l1 l2 l3 l4 l5 l6 l7 l8 l9 l10 : Option Value} {x : Int32} {m : jmM} {Q : Option Value → jmM → Prop} : AW d 231 1 [l0, l1, l2, l3, l4, l5, l6, l7, l8, l9, l10] [.int x] m Q ↔ AW d 231 2 [l0, l1, l2, l3, l4, l5, l6, l7, l8, l9, l10] [.long x.toInt64] m Q := A_i2l hB_X12_begin dX12_begin_1
theorem dX12_begin_2 : decode cX12_begin 2 = .ok (.lconst 0, 1) := by decide +kernel
theorem tX12_begin_2 {d : Nat} {l0 l1 l2 l3 l4 l5 l6 l7 l8 l9 l10 : Option Value} {v0 : Value} {m : jmM} {Q : Option Value → jmM → Prop} : AW d 231 2 [l0, l1, l2, l3, l4, l5, l6, l7, l8, l9, l10] [v0] m Q ↔ AW d 231 3 [l0, l1, l2, l3, l4, l5, l6, l7, l8, l9, l10] [.long 0, v0] m Q := A_lconst hB_X12_begin dX12_begin_2 (by decide)
theorem dX12_begin_3 : decode cX12_begin 3 = .ok (.aload_n 0, 1) := by decide +kernel
theorem tX12_begin_3 {d : Nat} {l1 l2 l3 l4 l5 l6 l7 l8 l9 l10 : Option Value} {v0 v1 : Value} {x : Nat} {m : jmM} {Q : Option Value → jmM → Prop} : AW d 231 3 [some (.ref x), l1, l2, l3, l4, l5, l6, l7, l8, l9, l10] [v0, v1] m Q ↔ AW d 231 4 [some (.ref x), l1, l2, l3, l4, l5, l6, l7, l8, l9, l10] [.ref x, v0, v1] m Q := A_aload_n hB_X12_begin dX12_begin_3 rfl
theorem dX12_begin_4 : decode cX12_begin 4 = .ok (.getfield 251, 3) := by decide +kernel
theorem tX12_begin_4 {d : Nat} {l0 l1 l2 l3 l4 l5 l6 l7 l8 l9 l10 : Option Value} {v1 v2 : Value} {a : Nat} {m : jmM} {Q : Option Value → jmM → Prop} : AW d 231 4 [l0, l1, l2, l3, l4, l5, l6, l7, l8, l9, l10] [.ref a, v1, v2] m Q ↔ (mS m a).1 = 12 ∧ AW d 231 7 [l0, l1, l2, l3, l4, l5, l6, l7, l8, l9, l10] [.int (mI m a 9), v1, v2] m Q := A_getfield (f := fun m a => .int (mI m a 9)) hB_X12_begin dX12_begin_4 hO_X12_begin fF_12_251 rfl
theorem dX12_begin_7 : decode cX12_begin 7 = .ok (.iconst 1, 1) := by decide +kernel
theorem tX12_begin_7 {d : Nat} {l0 l1 l2 l3 l4 l5 l6 l7 l8 l9 l10 : Option Value} {v0 v1 v2 : Value} {m : jmM} {Q : Option Value → jmM → Prop} : AW d 231 7 [l0, l1, l2, l3, l4, l5, l6, l7, l8, l9, l10] [v0, v1, v2] m Q ↔ AW d 231 8 [l0, l1, l2, l3, l4, l5, l6, l7, l8, l9, l10] [.int 1, v0, v1, v2] m Q := A_iconst hB_X12_begin dX12_begin_7 (by decide)
theorem dX12_begin_8 : decode cX12_begin 8 = .ok (.isub, 1) := by decide +kernel
theorem tX12_begin_8 {d : Nat} {l0 l1 l2 l3 l4 l5 l6 l7 l8 l9 l10 : Option Value} {v2 v3 : Value} {x y : Int32} {m : jmM} {Q : Option Value → jmM → Prop} : AW d 231 8 [l0, l1, l2, l3, l4, l5, l6, l7, l8, l9, l10] [.int y, .int x, v2, v3] m Q ↔ AW d 231 9 [l0, l1, l2, l3, l4, l5, l6, l7, l8, l9, l10] [.int (x - y), v2, v3] m Q := A_isub hB_X12_begin dX12_begin_8
theorem dX12_begin_9 : decode cX12_begin 9 = .ok (.i2l, 1) := by decide +kernel
theorem tX12_begin_9 {d : Nat} {l0 l1 l2 l3 l4 l5 l6 l7 l8 l9 l10 : Option Value} {v1 v2 : Value} {x : Int32} {m : jmM} {Q : Option Value → jmM → Prop} : AW d 231 9 [l0, l1, l2, l3, l4, l5, l6, l7, l8, l9, l10] [.int x, v1, v2] m Q ↔ AW d 231 10 [l0, l1, l2, l3, l4, l5, l6, l7, l8, l9, l10] [.long x.toInt64, v1, v2] m Q := A_i2l hB_X12_begin dX12_begin_9
theorem dX12_begin_10 : decode cX12_begin 10 = .ok (.invokestatic 281, 3) := by decide +kernel
theorem tX12_begin_10 {d : Nat} {l0 l1 l2 l3 l4 l5 l6 l7 l8 l9 l10 : Option Value} {y0 y1 y2 : Value} {m : jmM} {Q : Option Value → jmM → Prop} : AW d 231 10 [l0, l1, l2, l3, l4, l5, l6, l7, l8, l9, l10] [y0, y1, y2] m Q ↔ CC d 189 [y2, y1, y0] m (jK d 231 13 [l0, l1, l2, l3, l4, l5, l6, l7, l8, l9, l10] [] Q) := A_callS0 hB_X12_begin dX12_begin_10 hO_X12_begin fS_12_281 ⟨Nat.le_of_ble_eq_true rfl, Nat.le_of_ble_eq_true rfl⟩ rfl rfl
theorem dX12_begin_13 : decode cX12_begin 13 = .ok (.ifCond .eq 70, 3) := by decide +kernel
theorem tX12_begin_13 {d : Nat} {l0 l1 l2 l3 l4 l5 l6 l7 l8 l9 l10 : Option Value} {x : Int32} {m : jmM} {Q : Option Value → jmM → Prop} : AW d 231 13 [l0, l1, l2, l3, l4, l5, l6, l7, l8, l9, l10] [.int x] m Q ↔ if x = 0 then AW d 231 83 [l0, l1, l2, l3, l4, l5, l6, l7, l8, l9, l10] [] m Q else AW d 231 16 [l0, l1, l2, l3, l4, l5, l6, l7, l8, l9, l10] [] m Q := A_if_eq hB_X12_begin dX12_begin_13 (by decide)
theorem dX12_begin_16 : decode cX12_begin 16 = .ok (.iload_n 2, 1) := by decide +kernel
theorem tX12_begin_16 {d : Nat} {l0 l1 l3 l4 l5 l6 l7 l8 l9 l10 : Option Value} {x : Int32} {m : jmM} {Q : Option Value → jmM → Prop} : AW d 231 16 [l0, l1, some (.int x), l3, l4, l5, l6, l7, l8, l9, l10] [] m Q ↔ AW d 231 17 [l0, l1, some (.int x), l3, l4, l5, l6, l7, l8, l9, l10] [.int x] m Q := A_iload_n hB_X12_begin dX12_begin_16 rfl
theorem dX12_begin_17 : decode cX12_begin 17 = .ok (.i2l, 1) := by decide +kernel
theorem tX12_begin_17 {d : Nat} {l0 l1 l2 l3 l4 l5 l6 l7 l8 l9 l10 : Option Value} {x : Int32} {m : jmM} {Q : Option Value → jmM → Prop} : AW d 231 17 [l0, l1, l2, l3, l4, l5, l6, l7, l8, l9, l10] [.int x] m Q ↔ AW d 231 18 [l0, l1, l2, l3, l4, l5, l6, l7, l8, l9, l10] [.long x.toInt64] m Q := A_i2l hB_X12_begin dX12_begin_17
theorem dX12_begin_18 : decode cX12_begin 18 = .ok (.lconst 0, 1) := by decide +kernel
theorem tX12_begin_18 {d : Nat} {l0 l1 l2 l3 l4 l5 l6 l7 l8 l9 l10 : Option Value} {v0 : Value} {m : jmM} {Q : Option Value → jmM → Prop} : AW d 231 18 [l0, l1, l2, l3, l4, l5, l6, l7, l8, l9, l10] [v0] m Q ↔ AW d 231 19 [l0, l1, l2, l3, l4, l5, l6, l7, l8, l9, l10] [.long 0, v0] m Q := A_lconst hB_X12_begin dX12_begin_18 (by decide)
theorem dX12_begin_19 : decode cX12_begin 19 = .ok (.aload_n 0, 1) := by decide +kernel
theorem tX12_begin_19 {d : Nat} {l1 l2 l3 l4 l5 l6 l7 l8 l9 l10 : Option Value} {v0 v1 : Value} {x : Nat} {m : jmM} {Q : Option Value → jmM → Prop} : AW d 231 19 [some (.ref x), l1, l2, l3, l4, l5, l6, l7, l8, l9, l10] [v0, v1] m Q ↔ AW d 231 20 [some (.ref x), l1, l2, l3, l4, l5, l6, l7, l8, l9, l10] [.ref x, v0, v1] m Q := A_aload_n hB_X12_begin dX12_begin_19 rfl
theorem dX12_begin_20 : decode cX12_begin 20 = .ok (.getfield 257, 3) := by decide +kernel
theorem tX12_begin_20 {d : Nat} {l0 l1 l2 l3 l4 l5 l6 l7 l8 l9 l10 : Option Value} {v1 v2 : Value} {a : Nat} {m : jmM} {Q : Option Value → jmM → Prop} : AW d 231 20 [l0, l1, l2, l3, l4, l5, l6, l7, l8, l9, l10] [.ref a, v1, v2] m Q ↔ (mS m a).1 = 12 ∧ AW d 231 23 [l0, l1, l2, l3, l4, l5, l6, l7, l8, l9, l10] [.int (mI m a 10), v1, v2] m Q := A_getfield (f := fun m a => .int (mI m a 10)) hB_X12_begin dX12_begin_20 hO_X12_begin fF_12_257 rfl
theorem dX12_begin_23 : decode cX12_begin 23 = .ok (.iconst 1, 1) := by decide +kernel
theorem tX12_begin_23 {d : Nat} {l0 l1 l2 l3 l4 l5 l6 l7 l8 l9 l10 : Option Value} {v0 v1 v2 : Value} {m : jmM} {Q : Option Value → jmM → Prop} : AW d 231 23 [l0, l1, l2, l3, l4, l5, l6, l7, l8, l9, l10] [v0, v1, v2] m Q ↔ AW d 231 24 [l0, l1, l2, l3, l4, l5, l6, l7, l8, l9, l10] [.int 1, v0, v1, v2] m Q := A_iconst hB_X12_begin dX12_begin_23 (by decide)
theorem dX12_begin_24 : decode cX12_begin 24 = .ok (.isub, 1) := by decide +kernel
theorem tX12_begin_24 {d : Nat} {l0 l1 l2 l3 l4 l5 l6 l7 l8 l9 l10 : Option Value} {v2 v3 : Value} {x y : Int32} {m : jmM} {Q : Option Value → jmM → Prop} : AW d 231 24 [l0, l1, l2, l3, l4, l5, l6, l7, l8, l9, l10] [.int y, .int x, v2, v3] m Q ↔ AW d 231 25 [l0, l1, l2, l3, l4, l5, l6, l7, l8, l9, l10] [.int (x - y), v2, v3] m Q := A_isub hB_X12_begin dX12_begin_24
theorem dX12_begin_25 : decode cX12_begin 25 = .ok (.i2l, 1) := by decide +kernel
theorem tX12_begin_25 {d : Nat} {l0 l1 l2 l3 l4 l5 l6 l7 l8 l9 l10 : Option Value} {v1 v2 : Value} {x : Int32} {m : jmM} {Q : Option Value → jmM → Prop} : AW d 231 25 [l0, l1, l2, l3, l4, l5, l6, l7, l8, l9, l10] [.int x, v1, v2] m Q ↔ AW d 231 26 [l0, l1, l2, l3, l4, l5, l6, l7, l8, l9, l10] [.long x.toInt64, v1, v2] m Q := A_i2l hB_X12_begin dX12_begin_25
theorem dX12_begin_26 : decode cX12_begin 26 = .ok (.invokestatic 281, 3) := by decide +kernel
theorem tX12_begin_26 {d : Nat} {l0 l1 l2 l3 l4 l5 l6 l7 l8 l9 l10 : Option Value} {y0 y1 y2 : Value} {m : jmM} {Q : Option Value → jmM → Prop} : AW d 231 26 [l0, l1, l2, l3, l4, l5, l6, l7, l8, l9, l10] [y0, y1, y2] m Q ↔ CC d 189 [y2, y1, y0] m (jK d 231 29 [l0, l1, l2, l3, l4, l5, l6, l7, l8, l9, l10] [] Q) := A_callS0 hB_X12_begin dX12_begin_26 hO_X12_begin fS_12_281 ⟨Nat.le_of_ble_eq_true rfl, Nat.le_of_ble_eq_true rfl⟩ rfl rfl
theorem dX12_begin_29 : decode cX12_begin 29 = .ok (.ifCond .eq 54, 3) := by decide +kernel
theorem tX12_begin_29 {d : Nat} {l0 l1 l2 l3 l4 l5 l6 l7 l8 l9 l10 : Option Value} {x : Int32} {m : jmM} {Q : Option Value → jmM → Prop} : AW d 231 29 [l0, l1, l2, l3, l4, l5, l6, l7, l8, l9, l10] [.int x] m Q ↔ if x = 0 then AW d 231 83 [l0, l1, l2, l3, l4, l5, l6, l7, l8, l9, l10] [] m Q else AW d 231 32 [l0, l1, l2, l3, l4, l5, l6, l7, l8, l9, l10] [] m Q := A_if_eq hB_X12_begin dX12_begin_29 (by decide)
theorem dX12_begin_32 : decode cX12_begin 32 = .ok (.iload_n 3, 1) := by decide +kernel
theorem tX12_begin_32 {d : Nat} {l0 l1 l2 l4 l5 l6 l7 l8 l9 l10 : Option Value} {x : Int32} {m : jmM} {Q : Option Value → jmM → Prop} : AW d 231 32 [l0, l1, l2, some (.int x), l4, l5, l6, l7, l8, l9, l10] [] m Q ↔ AW d 231 33 [l0, l1, l2, some (.int x), l4, l5, l6, l7, l8, l9, l10] [.int x] m Q := A_iload_n hB_X12_begin dX12_begin_32 rfl
theorem dX12_begin_33 : decode cX12_begin 33 = .ok (.i2l, 1) := by decide +kernel
theorem tX12_begin_33 {d : Nat} {l0 l1 l2 l3 l4 l5 l6 l7 l8 l9 l10 : Option Value} {x : Int32} {m : jmM} {Q : Option Value → jmM → Prop} : AW d 231 33 [l0, l1, l2, l3, l4, l5, l6, l7, l8, l9, l10] [.int x] m Q ↔ AW d 231 34 [l0, l1, l2, l3, l4, l5, l6, l7, l8, l9, l10] [.long x.toInt64] m Q := A_i2l hB_X12_begin dX12_begin_33
theorem dX12_begin_34 : decode cX12_begin 34 = .ok (.lconst 1, 1) := by decide +kernel
theorem tX12_begin_34 {d : Nat} {l0 l1 l2 l3 l4 l5 l6 l7 l8 l9 l10 : Option Value} {v0 : Value} {m : jmM} {Q : Option Value → jmM → Prop} : AW d 231 34 [l0, l1, l2, l3, l4, l5, l6, l7, l8, l9, l10] [v0] m Q ↔ AW d 231 35 [l0, l1, l2, l3, l4, l5, l6, l7, l8, l9, l10] [.long 1, v0] m Q := A_lconst hB_X12_begin dX12_begin_34 (by decide)
theorem dX12_begin_35 : decode cX12_begin 35 = .ok (.ldc2_w 289, 3) := by decide +kernel
theorem tX12_begin_35 {d : Nat} {l0 l1 l2 l3 l4 l5 l6 l7 l8 l9 l10 : Option Value} {v0 v1 : Value} {m : jmM} {Q : Option Value → jmM → Prop} : AW d 231 35 [l0, l1, l2, l3, l4, l5, l6, l7, l8, l9, l10] [v0, v1] m Q ↔ AW d 231 38 [l0, l1, l2, l3, l4, l5, l6, l7, l8, l9, l10] [.long 99999, v0, v1] m Q := A_ldc2_w hB_X12_begin dX12_begin_35 hO_X12_begin fL2_12_289
theorem dX12_begin_38 : decode cX12_begin 38 = .ok (.invokestatic 281, 3) := by decide +kernel
theorem tX12_begin_38 {d : Nat} {l0 l1 l2 l3 l4 l5 l6 l7 l8 l9 l10 : Option Value} {y0 y1 y2 : Value} {m : jmM} {Q : Option Value → jmM → Prop} : AW d 231 38 [l0, l1, l2, l3, l4, l5, l6, l7, l8, l9, l10] [y0, y1, y2] m Q ↔ CC d 189 [y2, y1, y0] m (jK d 231 41 [l0, l1, l2, l3, l4, l5, l6, l7, l8, l9, l10] [] Q) := A_callS0 hB_X12_begin dX12_begin_38 hO_X12_begin fS_12_281 ⟨Nat.le_of_ble_eq_true rfl, Nat.le_of_ble_eq_true rfl⟩ rfl rfl
theorem dX12_begin_41 : decode cX12_begin 41 = .ok (.ifCond .eq 42, 3) := by decide +kernel
theorem tX12_begin_41 {d : Nat} {l0 l1 l2 l3 l4 l5 l6 l7 l8 l9 l10 : Option Value} {x : Int32} {m : jmM} {Q : Option Value → jmM → Prop} : AW d 231 41 [l0, l1, l2, l3, l4, l5, l6, l7, l8, l9, l10] [.int x] m Q ↔ if x = 0 then AW d 231 83 [l0, l1, l2, l3, l4, l5, l6, l7, l8, l9, l10] [] m Q else AW d 231 44 [l0, l1, l2, l3, l4, l5, l6, l7, l8, l9, l10] [] m Q := A_if_eq hB_X12_begin dX12_begin_41 (by decide)
theorem dX12_begin_44 : decode cX12_begin 44 = .ok (.iload 4, 2) := by decide +kernel
theorem tX12_begin_44 {d : Nat} {l0 l1 l2 l3 l5 l6 l7 l8 l9 l10 : Option Value} {x : Int32} {m : jmM} {Q : Option Value → jmM → Prop} : AW d 231 44 [l0, l1, l2, l3, some (.int x), l5, l6, l7, l8, l9, l10] [] m Q ↔ AW d 231 46 [l0, l1, l2, l3, some (.int x), l5, l6, l7, l8, l9, l10] [.int x] m Q := A_iload hB_X12_begin dX12_begin_44 rfl
theorem dX12_begin_46 : decode cX12_begin 46 = .ok (.i2l, 1) := by decide +kernel
theorem tX12_begin_46 {d : Nat} {l0 l1 l2 l3 l4 l5 l6 l7 l8 l9 l10 : Option Value} {x : Int32} {m : jmM} {Q : Option Value → jmM → Prop} : AW d 231 46 [l0, l1, l2, l3, l4, l5, l6, l7, l8, l9, l10] [.int x] m Q ↔ AW d 231 47 [l0, l1, l2, l3, l4, l5, l6, l7, l8, l9, l10] [.long x.toInt64] m Q := A_i2l hB_X12_begin dX12_begin_46
theorem dX12_begin_47 : decode cX12_begin 47 = .ok (.lconst 1, 1) := by decide +kernel
theorem tX12_begin_47 {d : Nat} {l0 l1 l2 l3 l4 l5 l6 l7 l8 l9 l10 : Option Value} {v0 : Value} {m : jmM} {Q : Option Value → jmM → Prop} : AW d 231 47 [l0, l1, l2, l3, l4, l5, l6, l7, l8, l9, l10] [v0] m Q ↔ AW d 231 48 [l0, l1, l2, l3, l4, l5, l6, l7, l8, l9, l10] [.long 1, v0] m Q := A_lconst hB_X12_begin dX12_begin_47 (by decide)
theorem dX12_begin_48 : decode cX12_begin 48 = .ok (.ldc2_w 291, 3) := by decide +kernel
theorem tX12_begin_48 {d : Nat} {l0 l1 l2 l3 l4 l5 l6 l7 l8 l9 l10 : Option Value} {v0 v1 : Value} {m : jmM} {Q : Option Value → jmM → Prop} : AW d 231 48 [l0, l1, l2, l3, l4, l5, l6, l7, l8, l9, l10] [v0, v1] m Q ↔ AW d 231 51 [l0, l1, l2, l3, l4, l5, l6, l7, l8, l9, l10] [.long 9999, v0, v1] m Q := A_ldc2_w hB_X12_begin dX12_begin_48 hO_X12_begin fL2_12_291
theorem dX12_begin_51 : decode cX12_begin 51 = .ok (.invokestatic 281, 3) := by decide +kernel
theorem tX12_begin_51 {d : Nat} {l0 l1 l2 l3 l4 l5 l6 l7 l8 l9 l10 : Option Value} {y0 y1 y2 : Value} {m : jmM} {Q : Option Value → jmM → Prop} : AW d 231 51 [l0, l1, l2, l3, l4, l5, l6, l7, l8, l9, l10] [y0, y1, y2] m Q ↔ CC d 189 [y2, y1, y0] m (jK d 231 54 [l0, l1, l2, l3, l4, l5, l6, l7, l8, l9, l10] [] Q) := A_callS0 hB_X12_begin dX12_begin_51 hO_X12_begin fS_12_281 ⟨Nat.le_of_ble_eq_true rfl, Nat.le_of_ble_eq_true rfl⟩ rfl rfl
theorem dX12_begin_54 : decode cX12_begin 54 = .ok (.ifCond .eq 29, 3) := by decide +kernel
theorem tX12_begin_54 {d : Nat} {l0 l1 l2 l3 l4 l5 l6 l7 l8 l9 l10 : Option Value} {x : Int32} {m : jmM} {Q : Option Value → jmM → Prop} : AW d 231 54 [l0, l1, l2, l3, l4, l5, l6, l7, l8, l9, l10] [.int x] m Q ↔ if x = 0 then AW d 231 83 [l0, l1, l2, l3, l4, l5, l6, l7, l8, l9, l10] [] m Q else AW d 231 57 [l0, l1, l2, l3, l4, l5, l6, l7, l8, l9, l10] [] m Q := A_if_eq hB_X12_begin dX12_begin_54 (by decide)
theorem dX12_begin_57 : decode cX12_begin 57 = .ok (.iload 5, 2) := by decide +kernel
theorem tX12_begin_57 {d : Nat} {l0 l1 l2 l3 l4 l6 l7 l8 l9 l10 : Option Value} {x : Int32} {m : jmM} {Q : Option Value → jmM → Prop} : AW d 231 57 [l0, l1, l2, l3, l4, some (.int x), l6, l7, l8, l9, l10] [] m Q ↔ AW d 231 59 [l0, l1, l2, l3, l4, some (.int x), l6, l7, l8, l9, l10] [.int x] m Q := A_iload hB_X12_begin dX12_begin_57 rfl
theorem dX12_begin_59 : decode cX12_begin 59 = .ok (.i2l, 1) := by decide +kernel
theorem tX12_begin_59 {d : Nat} {l0 l1 l2 l3 l4 l5 l6 l7 l8 l9 l10 : Option Value} {x : Int32} {m : jmM} {Q : Option Value → jmM → Prop} : AW d 231 59 [l0, l1, l2, l3, l4, l5, l6, l7, l8, l9, l10] [.int x] m Q ↔ AW d 231 60 [l0, l1, l2, l3, l4, l5, l6, l7, l8, l9, l10] [.long x.toInt64] m Q := A_i2l hB_X12_begin dX12_begin_59
theorem dX12_begin_60 : decode cX12_begin 60 = .ok (.lconst 0, 1) := by decide +kernel
theorem tX12_begin_60 {d : Nat} {l0 l1 l2 l3 l4 l5 l6 l7 l8 l9 l10 : Option Value} {v0 : Value} {m : jmM} {Q : Option Value → jmM → Prop} : AW d 231 60 [l0, l1, l2, l3, l4, l5, l6, l7, l8, l9, l10] [v0] m Q ↔ AW d 231 61 [l0, l1, l2, l3, l4, l5, l6, l7, l8, l9, l10] [.long 0, v0] m Q := A_lconst hB_X12_begin dX12_begin_60 (by decide)
theorem dX12_begin_61 : decode cX12_begin 61 = .ok (.ldc2_w 293, 3) := by decide +kernel
theorem tX12_begin_61 {d : Nat} {l0 l1 l2 l3 l4 l5 l6 l7 l8 l9 l10 : Option Value} {v0 v1 : Value} {m : jmM} {Q : Option Value → jmM → Prop} : AW d 231 61 [l0, l1, l2, l3, l4, l5, l6, l7, l8, l9, l10] [v0, v1] m Q ↔ AW d 231 64 [l0, l1, l2, l3, l4, l5, l6, l7, l8, l9, l10] [.long 999, v0, v1] m Q := A_ldc2_w hB_X12_begin dX12_begin_61 hO_X12_begin fL2_12_293
theorem dX12_begin_64 : decode cX12_begin 64 = .ok (.invokestatic 281, 3) := by decide +kernel
theorem tX12_begin_64 {d : Nat} {l0 l1 l2 l3 l4 l5 l6 l7 l8 l9 l10 : Option Value} {y0 y1 y2 : Value} {m : jmM} {Q : Option Value → jmM → Prop} : AW d 231 64 [l0, l1, l2, l3, l4, l5, l6, l7, l8, l9, l10] [y0, y1, y2] m Q ↔ CC d 189 [y2, y1, y0] m (jK d 231 67 [l0, l1, l2, l3, l4, l5, l6, l7, l8, l9, l10] [] Q) := A_callS0 hB_X12_begin dX12_begin_64 hO_X12_begin fS_12_281 ⟨Nat.le_of_ble_eq_true rfl, Nat.le_of_ble_eq_true rfl⟩ rfl rfl
theorem dX12_begin_67 : decode cX12_begin 67 = .ok (.ifCond .eq 16, 3) := by decide +kernel
theorem tX12_begin_67 {d : Nat} {l0 l1 l2 l3 l4 l5 l6 l7 l8 l9 l10 : Option Value} {x : Int32} {m : jmM} {Q : Option Value → jmM → Prop} : AW d 231 67 [l0, l1, l2, l3, l4, l5, l6, l7, l8, l9, l10] [.int x] m Q ↔ if x = 0 then AW d 231 83 [l0, l1, l2, l3, l4, l5, l6, l7, l8, l9, l10] [] m Q else AW d 231 70 [l0, l1, l2, l3, l4, l5, l6, l7, l8, l9, l10] [] m Q := A_if_eq hB_X12_begin dX12_begin_67 (by decide)
theorem dX12_begin_70 : decode cX12_begin 70 = .ok (.iload 6, 2) := by decide +kernel
theorem tX12_begin_70 {d : Nat} {l0 l1 l2 l3 l4 l5 l7 l8 l9 l10 : Option Value} {x : Int32} {m : jmM} {Q : Option Value → jmM → Prop} : AW d 231 70 [l0, l1, l2, l3, l4, l5, some (.int x), l7, l8, l9, l10] [] m Q ↔ AW d 231 72 [l0, l1, l2, l3, l4, l5, some (.int x), l7, l8, l9, l10] [.int x] m Q := A_iload hB_X12_begin dX12_begin_70 rfl
theorem dX12_begin_72 : decode cX12_begin 72 = .ok (.i2l, 1) := by decide +kernel
theorem tX12_begin_72 {d : Nat} {l0 l1 l2 l3 l4 l5 l6 l7 l8 l9 l10 : Option Value} {x : Int32} {m : jmM} {Q : Option Value → jmM → Prop} : AW d 231 72 [l0, l1, l2, l3, l4, l5, l6, l7, l8, l9, l10] [.int x] m Q ↔ AW d 231 73 [l0, l1, l2, l3, l4, l5, l6, l7, l8, l9, l10] [.long x.toInt64] m Q := A_i2l hB_X12_begin dX12_begin_72
theorem dX12_begin_73 : decode cX12_begin 73 = .ok (.lconst 1, 1) := by decide +kernel
theorem tX12_begin_73 {d : Nat} {l0 l1 l2 l3 l4 l5 l6 l7 l8 l9 l10 : Option Value} {v0 : Value} {m : jmM} {Q : Option Value → jmM → Prop} : AW d 231 73 [l0, l1, l2, l3, l4, l5, l6, l7, l8, l9, l10] [v0] m Q ↔ AW d 231 74 [l0, l1, l2, l3, l4, l5, l6, l7, l8, l9, l10] [.long 1, v0] m Q := A_lconst hB_X12_begin dX12_begin_73 (by decide)
theorem dX12_begin_74 : decode cX12_begin 74 = .ok (.ldc2_w 291, 3) := by decide +kernel
theorem tX12_begin_74 {d : Nat} {l0 l1 l2 l3 l4 l5 l6 l7 l8 l9 l10 : Option Value} {v0 v1 : Value} {m : jmM} {Q : Option Value → jmM → Prop} : AW d 231 74 [l0, l1, l2, l3, l4, l5, l6, l7, l8, l9, l10] [v0, v1] m Q ↔ AW d 231 77 [l0, l1, l2, l3, l4, l5, l6, l7, l8, l9, l10] [.long 9999, v0, v1] m Q := A_ldc2_w hB_X12_begin dX12_begin_74 hO_X12_begin fL2_12_291
theorem dX12_begin_77 : decode cX12_begin 77 = .ok (.invokestatic 281, 3) := by decide +kernel
theorem tX12_begin_77 {d : Nat} {l0 l1 l2 l3 l4 l5 l6 l7 l8 l9 l10 : Option Value} {y0 y1 y2 : Value} {m : jmM} {Q : Option Value → jmM → Prop} : AW d 231 77 [l0, l1, l2, l3, l4, l5, l6, l7, l8, l9, l10] [y0, y1, y2] m Q ↔ CC d 189 [y2, y1, y0] m (jK d 231 80 [l0, l1, l2, l3, l4, l5, l6, l7, l8, l9, l10] [] Q) := A_callS0 hB_X12_begin dX12_begin_77 hO_X12_begin fS_12_281 ⟨Nat.le_of_ble_eq_true rfl, Nat.le_of_ble_eq_true rfl⟩ rfl rfl
theorem dX12_begin_80 : decode cX12_begin 80 = .ok (.ifCond .ne 5, 3) := by decide +kernel
theorem tX12_begin_80 {d : Nat} {l0 l1 l2 l3 l4 l5 l6 l7 l8 l9 l10 : Option Value} {x : Int32} {m : jmM} {Q : Option Value → jmM → Prop} : AW d 231 80 [l0, l1, l2, l3, l4, l5, l6, l7, l8, l9, l10] [.int x] m Q ↔ if x = 0 then AW d 231 83 [l0, l1, l2, l3, l4, l5, l6, l7, l8, l9, l10] [] m Q else AW d 231 85 [l0, l1, l2, l3, l4, l5, l6, l7, l8, l9, l10] [] m Q := A_if_ne hB_X12_begin dX12_begin_80 (by decide)
theorem dX12_begin_83 : decode cX12_begin 83 = .ok (.iconst 0, 1) := by decide +kernel
theorem tX12_begin_83 {d : Nat} {l0 l1 l2 l3 l4 l5 l6 l7 l8 l9 l10 : Option Value} {m : jmM} {Q : Option Value → jmM → Prop} : AW d 231 83 [l0, l1, l2, l3, l4, l5, l6, l7, l8, l9, l10] [] m Q ↔ AW d 231 84 [l0, l1, l2, l3, l4, l5, l6, l7, l8, l9, l10] [.int 0] m Q := A_iconst hB_X12_begin dX12_begin_83 (by decide)
theorem dX12_begin_84 : decode cX12_begin 84 = .ok (.ireturn, 1) := by decide +kernel
theorem tX12_begin_84 {d : Nat} {l0 l1 l2 l3 l4 l5 l6 l7 l8 l9 l10 : Option Value} {x : Int32} {m : jmM} {Q : Option Value → jmM → Prop} : AW d 231 84 [l0, l1, l2, l3, l4, l5, l6, l7, l8, l9, l10] [.int x] m Q ↔ jBool x ∧ Q (some (.int x)) m := A_zreturn hB_X12_begin dX12_begin_84 hR_X12_begin
theorem dX12_begin_85 : decode cX12_begin 85 = .ok (.iload 7, 2) := by decide +kernel
theorem tX12_begin_85 {d : Nat} {l0 l1 l2 l3 l4 l5 l6 l8 l9 l10 : Option Value} {x : Int32} {m : jmM} {Q : Option Value → jmM → Prop} : AW d 231 85 [l0, l1, l2, l3, l4, l5, l6, some (.int x), l8, l9, l10] [] m Q ↔ AW d 231 87 [l0, l1, l2, l3, l4, l5, l6, some (.int x), l8, l9, l10] [.int x] m Q := A_iload hB_X12_begin dX12_begin_85 rfl
theorem dX12_begin_87 : decode cX12_begin 87 = .ok (.ifCond .lt 29, 3) := by decide +kernel
theorem tX12_begin_87 {d : Nat} {l0 l1 l2 l3 l4 l5 l6 l7 l8 l9 l10 : Option Value} {x : Int32} {m : jmM} {Q : Option Value → jmM → Prop} : AW d 231 87 [l0, l1, l2, l3, l4, l5, l6, l7, l8, l9, l10] [.int x] m Q ↔ if x < 0 then AW d 231 116 [l0, l1, l2, l3, l4, l5, l6, l7, l8, l9, l10] [] m Q else AW d 231 90 [l0, l1, l2, l3, l4, l5, l6, l7, l8, l9, l10] [] m Q := A_if_lt hB_X12_begin dX12_begin_87 (by decide)
theorem dX12_begin_90 : decode cX12_begin 90 = .ok (.iload 8, 2) := by decide +kernel
theorem tX12_begin_90 {d : Nat} {l0 l1 l2 l3 l4 l5 l6 l7 l9 l10 : Option Value} {x : Int32} {m : jmM} {Q : Option Value → jmM → Prop} : AW d 231 90 [l0, l1, l2, l3, l4, l5, l6, l7, some (.int x), l9, l10] [] m Q ↔ AW d 231 92 [l0, l1, l2, l3, l4, l5, l6, l7, some (.int x), l9, l10] [.int x] m Q := A_iload hB_X12_begin dX12_begin_90 rfl
theorem dX12_begin_92 : decode cX12_begin 92 = .ok (.i2l, 1) := by decide +kernel
theorem tX12_begin_92 {d : Nat} {l0 l1 l2 l3 l4 l5 l6 l7 l8 l9 l10 : Option Value} {x : Int32} {m : jmM} {Q : Option Value → jmM → Prop} : AW d 231 92 [l0, l1, l2, l3, l4, l5, l6, l7, l8, l9, l10] [.int x] m Q ↔ AW d 231 93 [l0, l1, l2, l3, l4, l5, l6, l7, l8, l9, l10] [.long x.toInt64] m Q := A_i2l hB_X12_begin dX12_begin_92
theorem dX12_begin_93 : decode cX12_begin 93 = .ok (.lconst 1, 1) := by decide +kernel
theorem tX12_begin_93 {d : Nat} {l0 l1 l2 l3 l4 l5 l6 l7 l8 l9 l10 : Option Value} {v0 : Value} {m : jmM} {Q : Option Value → jmM → Prop} : AW d 231 93 [l0, l1, l2, l3, l4, l5, l6, l7, l8, l9, l10] [v0] m Q ↔ AW d 231 94 [l0, l1, l2, l3, l4, l5, l6, l7, l8, l9, l10] [.long 1, v0] m Q := A_lconst hB_X12_begin dX12_begin_93 (by decide)
theorem dX12_begin_94 : decode cX12_begin 94 = .ok (.ldc2_w 295, 3) := by decide +kernel
theorem tX12_begin_94 {d : Nat} {l0 l1 l2 l3 l4 l5 l6 l7 l8 l9 l10 : Option Value} {v0 v1 : Value} {m : jmM} {Q : Option Value → jmM → Prop} : AW d 231 94 [l0, l1, l2, l3, l4, l5, l6, l7, l8, l9, l10] [v0, v1] m Q ↔ AW d 231 97 [l0, l1, l2, l3, l4, l5, l6, l7, l8, l9, l10] [.long 900, v0, v1] m Q := A_ldc2_w hB_X12_begin dX12_begin_94 hO_X12_begin fL2_12_295
theorem dX12_begin_97 : decode cX12_begin 97 = .ok (.invokestatic 281, 3) := by decide +kernel
theorem tX12_begin_97 {d : Nat} {l0 l1 l2 l3 l4 l5 l6 l7 l8 l9 l10 : Option Value} {y0 y1 y2 : Value} {m : jmM} {Q : Option Value → jmM → Prop} : AW d 231 97 [l0, l1, l2, l3, l4, l5, l6, l7, l8, l9, l10] [y0, y1, y2] m Q ↔ CC d 189 [y2, y1, y0] m (jK d 231 100 [l0, l1, l2, l3, l4, l5, l6, l7, l8, l9, l10] [] Q) := A_callS0 hB_X12_begin dX12_begin_97 hO_X12_begin fS_12_281 ⟨Nat.le_of_ble_eq_true rfl, Nat.le_of_ble_eq_true rfl⟩ rfl rfl
theorem dX12_begin_100 : decode cX12_begin 100 = .ok (.ifCond .eq 16, 3) := by decide +kernel
theorem tX12_begin_100 {d : Nat} {l0 l1 l2 l3 l4 l5 l6 l7 l8 l9 l10 : Option Value} {x : Int32} {m : jmM} {Q : Option Value → jmM → Prop} : AW d 231 100 [l0, l1, l2, l3, l4, l5, l6, l7, l8, l9, l10] [.int x] m Q ↔ if x = 0 then AW d 231 116 [l0, l1, l2, l3, l4, l5, l6, l7, l8, l9, l10] [] m Q else AW d 231 103 [l0, l1, l2, l3, l4, l5, l6, l7, l8, l9, l10] [] m Q := A_if_eq hB_X12_begin dX12_begin_100 (by decide)
theorem dX12_begin_103 : decode cX12_begin 103 = .ok (.iload 9, 2) := by decide +kernel
theorem tX12_begin_103 {d : Nat} {l0 l1 l2 l3 l4 l5 l6 l7 l8 l10 : Option Value} {x : Int32} {m : jmM} {Q : Option Value → jmM → Prop} : AW d 231 103 [l0, l1, l2, l3, l4, l5, l6, l7, l8, some (.int x), l10] [] m Q ↔ AW d 231 105 [l0, l1, l2, l3, l4, l5, l6, l7, l8, some (.int x), l10] [.int x] m Q := A_iload hB_X12_begin dX12_begin_103 rfl
theorem dX12_begin_105 : decode cX12_begin 105 = .ok (.i2l, 1) := by decide +kernel
theorem tX12_begin_105 {d : Nat} {l0 l1 l2 l3 l4 l5 l6 l7 l8 l9 l10 : Option Value} {x : Int32} {m : jmM} {Q : Option Value → jmM → Prop} : AW d 231 105 [l0, l1, l2, l3, l4, l5, l6, l7, l8, l9, l10] [.int x] m Q ↔ AW d 231 106 [l0, l1, l2, l3, l4, l5, l6, l7, l8, l9, l10] [.long x.toInt64] m Q := A_i2l hB_X12_begin dX12_begin_105
theorem dX12_begin_106 : decode cX12_begin 106 = .ok (.lconst 0, 1) := by decide +kernel
theorem tX12_begin_106 {d : Nat} {l0 l1 l2 l3 l4 l5 l6 l7 l8 l9 l10 : Option Value} {v0 : Value} {m : jmM} {Q : Option Value → jmM → Prop} : AW d 231 106 [l0, l1, l2, l3, l4, l5, l6, l7, l8, l9, l10] [v0] m Q ↔ AW d 231 107 [l0, l1, l2, l3, l4, l5, l6, l7, l8, l9, l10] [.long 0, v0] m Q := A_lconst hB_X12_begin dX12_begin_106 (by decide)
theorem dX12_begin_107 : decode cX12_begin 107 = .ok (.ldc2_w 293, 3) := by decide +kernel
theorem tX12_begin_107 {d : Nat} {l0 l1 l2 l3 l4 l5 l6 l7 l8 l9 l10 : Option Value} {v0 v1 : Value} {m : jmM} {Q : Option Value → jmM → Prop} : AW d 231 107 [l0, l1, l2, l3, l4, l5, l6, l7, l8, l9, l10] [v0, v1] m Q ↔ AW d 231 110 [l0, l1, l2, l3, l4, l5, l6, l7, l8, l9, l10] [.long 999, v0, v1] m Q := A_ldc2_w hB_X12_begin dX12_begin_107 hO_X12_begin fL2_12_293
theorem dX12_begin_110 : decode cX12_begin 110 = .ok (.invokestatic 281, 3) := by decide +kernel
theorem tX12_begin_110 {d : Nat} {l0 l1 l2 l3 l4 l5 l6 l7 l8 l9 l10 : Option Value} {y0 y1 y2 : Value} {m : jmM} {Q : Option Value → jmM → Prop} : AW d 231 110 [l0, l1, l2, l3, l4, l5, l6, l7, l8, l9, l10] [y0, y1, y2] m Q ↔ CC d 189 [y2, y1, y0] m (jK d 231 113 [l0, l1, l2, l3, l4, l5, l6, l7, l8, l9, l10] [] Q) := A_callS0 hB_X12_begin dX12_begin_110 hO_X12_begin fS_12_281 ⟨Nat.le_of_ble_eq_true rfl, Nat.le_of_ble_eq_true rfl⟩ rfl rfl
theorem dX12_begin_113 : decode cX12_begin 113 = .ok (.ifCond .ne 5, 3) := by decide +kernel
theorem tX12_begin_113 {d : Nat} {l0 l1 l2 l3 l4 l5 l6 l7 l8 l9 l10 : Option Value} {x : Int32} {m : jmM} {Q : Option Value → jmM → Prop} : AW d 231 113 [l0, l1, l2, l3, l4, l5, l6, l7, l8, l9, l10] [.int x] m Q ↔ if x = 0 then AW d 231 116 [l0, l1, l2, l3, l4, l5, l6, l7, l8, l9, l10] [] m Q else AW d 231 118 [l0, l1, l2, l3, l4, l5, l6, l7, l8, l9, l10] [] m Q := A_if_ne hB_X12_begin dX12_begin_113 (by decide)
theorem dX12_begin_116 : decode cX12_begin 116 = .ok (.iconst 0, 1) := by decide +kernel
theorem tX12_begin_116 {d : Nat} {l0 l1 l2 l3 l4 l5 l6 l7 l8 l9 l10 : Option Value} {m : jmM} {Q : Option Value → jmM → Prop} : AW d 231 116 [l0, l1, l2, l3, l4, l5, l6, l7, l8, l9, l10] [] m Q ↔ AW d 231 117 [l0, l1, l2, l3, l4, l5, l6, l7, l8, l9, l10] [.int 0] m Q := A_iconst hB_X12_begin dX12_begin_116 (by decide)
theorem dX12_begin_117 : decode cX12_begin 117 = .ok (.ireturn, 1) := by decide +kernel
theorem tX12_begin_117 {d : Nat} {l0 l1 l2 l3 l4 l5 l6 l7 l8 l9 l10 : Option Value} {x : Int32} {m : jmM} {Q : Option Value → jmM → Prop} : AW d 231 117 [l0, l1, l2, l3, l4, l5, l6, l7, l8, l9, l10] [.int x] m Q ↔ jBool x ∧ Q (some (.int x)) m := A_zreturn hB_X12_begin dX12_begin_117 hR_X12_begin
theorem dX12_begin_118 : decode cX12_begin 118 = .ok (.aload_n 0, 1) := by decide +kernel
theorem tX12_begin_118 {d : Nat} {l1 l2 l3 l4 l5 l6 l7 l8 l9 l10 : Option Value} {x : Nat} {m : jmM} {Q : Option Value → jmM → Prop} : AW d 231 118 [some (.ref x), l1, l2, l3, l4, l5, l6, l7, l8, l9, l10] [] m Q ↔ AW d 231 119 [some (.ref x), l1, l2, l3, l4, l5, l6, l7, l8, l9, l10] [.ref x] m Q := A_aload_n hB_X12_begin dX12_begin_118 rfl
theorem dX12_begin_119 : decode cX12_begin 119 = .ok (.getfield 51, 3) := by decide +kernel
theorem tX12_begin_119 {d : Nat} {l0 l1 l2 l3 l4 l5 l6 l7 l8 l9 l10 : Option Value} {a : Nat} {m : jmM} {Q : Option Value → jmM → Prop} : AW d 231 119 [l0, l1, l2, l3, l4, l5, l6, l7, l8, l9, l10] [.ref a] m Q ↔ (mS m a).1 = 12 ∧ AW d 231 122 [l0, l1, l2, l3, l4, l5, l6, l7, l8, l9, l10] [va_rf (mR m a 25)] m Q := A_getfield (f := fun m a => va_rf (mR m a 25)) hB_X12_begin dX12_begin_119 hO_X12_begin fF_12_51 rfl
theorem dX12_begin_122 : decode cX12_begin 122 = .ok (.iconst 0, 1) := by decide +kernel
theorem tX12_begin_122 {d : Nat} {l0 l1 l2 l3 l4 l5 l6 l7 l8 l9 l10 : Option Value} {v0 : Value} {m : jmM} {Q : Option Value → jmM → Prop} : AW d 231 122 [l0, l1, l2, l3, l4, l5, l6, l7, l8, l9, l10] [v0] m Q ↔ AW d 231 123 [l0, l1, l2, l3, l4, l5, l6, l7, l8, l9, l10] [.int 0, v0] m Q := A_iconst hB_X12_begin dX12_begin_122 (by decide)
theorem dX12_begin_123 : decode cX12_begin 123 = .ok (.iconst 1, 1) := by decide +kernel
theorem tX12_begin_123 {d : Nat} {l0 l1 l2 l3 l4 l5 l6 l7 l8 l9 l10 : Option Value} {v0 v1 : Value} {m : jmM} {Q : Option Value → jmM → Prop} : AW d 231 123 [l0, l1, l2, l3, l4, l5, l6, l7, l8, l9, l10] [v0, v1] m Q ↔ AW d 231 124 [l0, l1, l2, l3, l4, l5, l6, l7, l8, l9, l10] [.int 1, v0, v1] m Q := A_iconst hB_X12_begin dX12_begin_123 (by decide)
theorem dX12_begin_124 : decode cX12_begin 124 = .ok (.iastore, 1) := by decide +kernel
theorem tX12_begin_124 {d : Nat} {l0 l1 l2 l3 l4 l5 l6 l7 l8 l9 l10 : Option Value} {x i : Int32} {a : Nat} {m : jmM} {Q : Option Value → jmM → Prop} : AW d 231 124 [l0, l1, l2, l3, l4, l5, l6, l7, l8, l9, l10] [.int x, .int i, .ref a] m Q ↔ ((mS m a).1 = 20 ∧ jIx i (mS m a).2) ∧ AW d 231 125 [l0, l1, l2, l3, l4, l5, l6, l7, l8, l9, l10] [] (cI m a (jup (mI m a) (jx i) x)) Q := A_iastore hB_X12_begin dX12_begin_124
theorem dX12_begin_125 : decode cX12_begin 125 = .ok (.aload_n 0, 1) := by decide +kernel
theorem tX12_begin_125 {d : Nat} {l1 l2 l3 l4 l5 l6 l7 l8 l9 l10 : Option Value} {x : Nat} {m : jmM} {Q : Option Value → jmM → Prop} : AW d 231 125 [some (.ref x), l1, l2, l3, l4, l5, l6, l7, l8, l9, l10] [] m Q ↔ AW d 231 126 [some (.ref x), l1, l2, l3, l4, l5, l6, l7, l8, l9, l10] [.ref x] m Q := A_aload_n hB_X12_begin dX12_begin_125 rfl
theorem dX12_begin_126 : decode cX12_begin 126 = .ok (.getfield 51, 3) := by decide +kernel
theorem tX12_begin_126 {d : Nat} {l0 l1 l2 l3 l4 l5 l6 l7 l8 l9 l10 : Option Value} {a : Nat} {m : jmM} {Q : Option Value → jmM → Prop} : AW d 231 126 [l0, l1, l2, l3, l4, l5, l6, l7, l8, l9, l10] [.ref a] m Q ↔ (mS m a).1 = 12 ∧ AW d 231 129 [l0, l1, l2, l3, l4, l5, l6, l7, l8, l9, l10] [va_rf (mR m a 25)] m Q := A_getfield (f := fun m a => va_rf (mR m a 25)) hB_X12_begin dX12_begin_126 hO_X12_begin fF_12_51 rfl
theorem dX12_begin_129 : decode cX12_begin 129 = .ok (.iconst 1, 1) := by decide +kernel
theorem tX12_begin_129 {d : Nat} {l0 l1 l2 l3 l4 l5 l6 l7 l8 l9 l10 : Option Value} {v0 : Value} {m : jmM} {Q : Option Value → jmM → Prop} : AW d 231 129 [l0, l1, l2, l3, l4, l5, l6, l7, l8, l9, l10] [v0] m Q ↔ AW d 231 130 [l0, l1, l2, l3, l4, l5, l6, l7, l8, l9, l10] [.int 1, v0] m Q := A_iconst hB_X12_begin dX12_begin_129 (by decide)
theorem dX12_begin_130 : decode cX12_begin 130 = .ok (.iload_n 1, 1) := by decide +kernel
theorem tX12_begin_130 {d : Nat} {l0 l2 l3 l4 l5 l6 l7 l8 l9 l10 : Option Value} {v0 v1 : Value} {x : Int32} {m : jmM} {Q : Option Value → jmM → Prop} : AW d 231 130 [l0, some (.int x), l2, l3, l4, l5, l6, l7, l8, l9, l10] [v0, v1] m Q ↔ AW d 231 131 [l0, some (.int x), l2, l3, l4, l5, l6, l7, l8, l9, l10] [.int x, v0, v1] m Q := A_iload_n hB_X12_begin dX12_begin_130 rfl
theorem dX12_begin_131 : decode cX12_begin 131 = .ok (.iastore, 1) := by decide +kernel
theorem tX12_begin_131 {d : Nat} {l0 l1 l2 l3 l4 l5 l6 l7 l8 l9 l10 : Option Value} {x i : Int32} {a : Nat} {m : jmM} {Q : Option Value → jmM → Prop} : AW d 231 131 [l0, l1, l2, l3, l4, l5, l6, l7, l8, l9, l10] [.int x, .int i, .ref a] m Q ↔ ((mS m a).1 = 20 ∧ jIx i (mS m a).2) ∧ AW d 231 132 [l0, l1, l2, l3, l4, l5, l6, l7, l8, l9, l10] [] (cI m a (jup (mI m a) (jx i) x)) Q := A_iastore hB_X12_begin dX12_begin_131
theorem dX12_begin_132 : decode cX12_begin 132 = .ok (.aload_n 0, 1) := by decide +kernel
theorem tX12_begin_132 {d : Nat} {l1 l2 l3 l4 l5 l6 l7 l8 l9 l10 : Option Value} {x : Nat} {m : jmM} {Q : Option Value → jmM → Prop} : AW d 231 132 [some (.ref x), l1, l2, l3, l4, l5, l6, l7, l8, l9, l10] [] m Q ↔ AW d 231 133 [some (.ref x), l1, l2, l3, l4, l5, l6, l7, l8, l9, l10] [.ref x] m Q := A_aload_n hB_X12_begin dX12_begin_132 rfl
theorem dX12_begin_133 : decode cX12_begin 133 = .ok (.getfield 51, 3) := by decide +kernel
theorem tX12_begin_133 {d : Nat} {l0 l1 l2 l3 l4 l5 l6 l7 l8 l9 l10 : Option Value} {a : Nat} {m : jmM} {Q : Option Value → jmM → Prop} : AW d 231 133 [l0, l1, l2, l3, l4, l5, l6, l7, l8, l9, l10] [.ref a] m Q ↔ (mS m a).1 = 12 ∧ AW d 231 136 [l0, l1, l2, l3, l4, l5, l6, l7, l8, l9, l10] [va_rf (mR m a 25)] m Q := A_getfield (f := fun m a => va_rf (mR m a 25)) hB_X12_begin dX12_begin_133 hO_X12_begin fF_12_51 rfl
theorem dX12_begin_136 : decode cX12_begin 136 = .ok (.iconst 2, 1) := by decide +kernel
theorem tX12_begin_136 {d : Nat} {l0 l1 l2 l3 l4 l5 l6 l7 l8 l9 l10 : Option Value} {v0 : Value} {m : jmM} {Q : Option Value → jmM → Prop} : AW d 231 136 [l0, l1, l2, l3, l4, l5, l6, l7, l8, l9, l10] [v0] m Q ↔ AW d 231 137 [l0, l1, l2, l3, l4, l5, l6, l7, l8, l9, l10] [.int 2, v0] m Q := A_iconst hB_X12_begin dX12_begin_136 (by decide)
theorem dX12_begin_137 : decode cX12_begin 137 = .ok (.iload_n 2, 1) := by decide +kernel
theorem tX12_begin_137 {d : Nat} {l0 l1 l3 l4 l5 l6 l7 l8 l9 l10 : Option Value} {v0 v1 : Value} {x : Int32} {m : jmM} {Q : Option Value → jmM → Prop} : AW d 231 137 [l0, l1, some (.int x), l3, l4, l5, l6, l7, l8, l9, l10] [v0, v1] m Q ↔ AW d 231 138 [l0, l1, some (.int x), l3, l4, l5, l6, l7, l8, l9, l10] [.int x, v0, v1] m Q := A_iload_n hB_X12_begin dX12_begin_137 rfl
theorem dX12_begin_138 : decode cX12_begin 138 = .ok (.iastore, 1) := by decide +kernel
theorem tX12_begin_138 {d : Nat} {l0 l1 l2 l3 l4 l5 l6 l7 l8 l9 l10 : Option Value} {x i : Int32} {a : Nat} {m : jmM} {Q : Option Value → jmM → Prop} : AW d 231 138 [l0, l1, l2, l3, l4, l5, l6, l7, l8, l9, l10] [.int x, .int i, .ref a] m Q ↔ ((mS m a).1 = 20 ∧ jIx i (mS m a).2) ∧ AW d 231 139 [l0, l1, l2, l3, l4, l5, l6, l7, l8, l9, l10] [] (cI m a (jup (mI m a) (jx i) x)) Q := A_iastore hB_X12_begin dX12_begin_138
theorem dX12_begin_139 : decode cX12_begin 139 = .ok (.aload_n 0, 1) := by decide +kernel
theorem tX12_begin_139 {d : Nat} {l1 l2 l3 l4 l5 l6 l7 l8 l9 l10 : Option Value} {x : Nat} {m : jmM} {Q : Option Value → jmM → Prop} : AW d 231 139 [some (.ref x), l1, l2, l3, l4, l5, l6, l7, l8, l9, l10] [] m Q ↔ AW d 231 140 [some (.ref x), l1, l2, l3, l4, l5, l6, l7, l8, l9, l10] [.ref x] m Q := A_aload_n hB_X12_begin dX12_begin_139 rfl
theorem dX12_begin_140 : decode cX12_begin 140 = .ok (.getfield 51, 3) := by decide +kernel
theorem tX12_begin_140 {d : Nat} {l0 l1 l2 l3 l4 l5 l6 l7 l8 l9 l10 : Option Value} {a : Nat} {m : jmM} {Q : Option Value → jmM → Prop} : AW d 231 140 [l0, l1, l2, l3, l4, l5, l6, l7, l8, l9, l10] [.ref a] m Q ↔ (mS m a).1 = 12 ∧ AW d 231 143 [l0, l1, l2, l3, l4, l5, l6, l7, l8, l9, l10] [va_rf (mR m a 25)] m Q := A_getfield (f := fun m a => va_rf (mR m a 25)) hB_X12_begin dX12_begin_140 hO_X12_begin fF_12_51 rfl
theorem dX12_begin_143 : decode cX12_begin 143 = .ok (.iconst 3, 1) := by decide +kernel
theorem tX12_begin_143 {d : Nat} {l0 l1 l2 l3 l4 l5 l6 l7 l8 l9 l10 : Option Value} {v0 : Value} {m : jmM} {Q : Option Value → jmM → Prop} : AW d 231 143 [l0, l1, l2, l3, l4, l5, l6, l7, l8, l9, l10] [v0] m Q ↔ AW d 231 144 [l0, l1, l2, l3, l4, l5, l6, l7, l8, l9, l10] [.int 3, v0] m Q := A_iconst hB_X12_begin dX12_begin_143 (by decide)
theorem dX12_begin_144 : decode cX12_begin 144 = .ok (.iload_n 3, 1) := by decide +kernel
theorem tX12_begin_144 {d : Nat} {l0 l1 l2 l4 l5 l6 l7 l8 l9 l10 : Option Value} {v0 v1 : Value} {x : Int32} {m : jmM} {Q : Option Value → jmM → Prop} : AW d 231 144 [l0, l1, l2, some (.int x), l4, l5, l6, l7, l8, l9, l10] [v0, v1] m Q ↔ AW d 231 145 [l0, l1, l2, some (.int x), l4, l5, l6, l7, l8, l9, l10] [.int x, v0, v1] m Q := A_iload_n hB_X12_begin dX12_begin_144 rfl
theorem dX12_begin_145 : decode cX12_begin 145 = .ok (.iastore, 1) := by decide +kernel
theorem tX12_begin_145 {d : Nat} {l0 l1 l2 l3 l4 l5 l6 l7 l8 l9 l10 : Option Value} {x i : Int32} {a : Nat} {m : jmM} {Q : Option Value → jmM → Prop} : AW d 231 145 [l0, l1, l2, l3, l4, l5, l6, l7, l8, l9, l10] [.int x, .int i, .ref a] m Q ↔ ((mS m a).1 = 20 ∧ jIx i (mS m a).2) ∧ AW d 231 146 [l0, l1, l2, l3, l4, l5, l6, l7, l8, l9, l10] [] (cI m a (jup (mI m a) (jx i) x)) Q := A_iastore hB_X12_begin dX12_begin_145
theorem dX12_begin_146 : decode cX12_begin 146 = .ok (.aload_n 0, 1) := by decide +kernel
theorem tX12_begin_146 {d : Nat} {l1 l2 l3 l4 l5 l6 l7 l8 l9 l10 : Option Value} {x : Nat} {m : jmM} {Q : Option Value → jmM → Prop} : AW d 231 146 [some (.ref x), l1, l2, l3, l4, l5, l6, l7, l8, l9, l10] [] m Q ↔ AW d 231 147 [some (.ref x), l1, l2, l3, l4, l5, l6, l7, l8, l9, l10] [.ref x] m Q := A_aload_n hB_X12_begin dX12_begin_146 rfl
theorem dX12_begin_147 : decode cX12_begin 147 = .ok (.getfield 51, 3) := by decide +kernel
theorem tX12_begin_147 {d : Nat} {l0 l1 l2 l3 l4 l5 l6 l7 l8 l9 l10 : Option Value} {a : Nat} {m : jmM} {Q : Option Value → jmM → Prop} : AW d 231 147 [l0, l1, l2, l3, l4, l5, l6, l7, l8, l9, l10] [.ref a] m Q ↔ (mS m a).1 = 12 ∧ AW d 231 150 [l0, l1, l2, l3, l4, l5, l6, l7, l8, l9, l10] [va_rf (mR m a 25)] m Q := A_getfield (f := fun m a => va_rf (mR m a 25)) hB_X12_begin dX12_begin_147 hO_X12_begin fF_12_51 rfl
theorem dX12_begin_150 : decode cX12_begin 150 = .ok (.iconst 4, 1) := by decide +kernel
theorem tX12_begin_150 {d : Nat} {l0 l1 l2 l3 l4 l5 l6 l7 l8 l9 l10 : Option Value} {v0 : Value} {m : jmM} {Q : Option Value → jmM → Prop} : AW d 231 150 [l0, l1, l2, l3, l4, l5, l6, l7, l8, l9, l10] [v0] m Q ↔ AW d 231 151 [l0, l1, l2, l3, l4, l5, l6, l7, l8, l9, l10] [.int 4, v0] m Q := A_iconst hB_X12_begin dX12_begin_150 (by decide)
theorem dX12_begin_151 : decode cX12_begin 151 = .ok (.iload 4, 2) := by decide +kernel
theorem tX12_begin_151 {d : Nat} {l0 l1 l2 l3 l5 l6 l7 l8 l9 l10 : Option Value} {v0 v1 : Value} {x : Int32} {m : jmM} {Q : Option Value → jmM → Prop} : AW d 231 151 [l0, l1, l2, l3, some (.int x), l5, l6, l7, l8, l9, l10] [v0, v1] m Q ↔ AW d 231 153 [l0, l1, l2, l3, some (.int x), l5, l6, l7, l8, l9, l10] [.int x, v0, v1] m Q := A_iload hB_X12_begin dX12_begin_151 rfl
theorem dX12_begin_153 : decode cX12_begin 153 = .ok (.iastore, 1) := by decide +kernel
theorem tX12_begin_153 {d : Nat} {l0 l1 l2 l3 l4 l5 l6 l7 l8 l9 l10 : Option Value} {x i : Int32} {a : Nat} {m : jmM} {Q : Option Value → jmM → Prop} : AW d 231 153 [l0, l1, l2, l3, l4, l5, l6, l7, l8, l9, l10] [.int x, .int i, .ref a] m Q ↔ ((mS m a).1 = 20 ∧ jIx i (mS m a).2) ∧ AW d 231 154 [l0, l1, l2, l3, l4, l5, l6, l7, l8, l9, l10] [] (cI m a (jup (mI m a) (jx i) x)) Q := A_iastore hB_X12_begin dX12_begin_153
theorem dX12_begin_154 : decode cX12_begin 154 = .ok (.aload_n 0, 1) := by decide +kernel
theorem tX12_begin_154 {d : Nat} {l1 l2 l3 l4 l5 l6 l7 l8 l9 l10 : Option Value} {x : Nat} {m : jmM} {Q : Option Value → jmM → Prop} : AW d 231 154 [some (.ref x), l1, l2, l3, l4, l5, l6, l7, l8, l9, l10] [] m Q ↔ AW d 231 155 [some (.ref x), l1, l2, l3, l4, l5, l6, l7, l8, l9, l10] [.ref x] m Q := A_aload_n hB_X12_begin dX12_begin_154 rfl
theorem dX12_begin_155 : decode cX12_begin 155 = .ok (.getfield 51, 3) := by decide +kernel
theorem tX12_begin_155 {d : Nat} {l0 l1 l2 l3 l4 l5 l6 l7 l8 l9 l10 : Option Value} {a : Nat} {m : jmM} {Q : Option Value → jmM → Prop} : AW d 231 155 [l0, l1, l2, l3, l4, l5, l6, l7, l8, l9, l10] [.ref a] m Q ↔ (mS m a).1 = 12 ∧ AW d 231 158 [l0, l1, l2, l3, l4, l5, l6, l7, l8, l9, l10] [va_rf (mR m a 25)] m Q := A_getfield (f := fun m a => va_rf (mR m a 25)) hB_X12_begin dX12_begin_155 hO_X12_begin fF_12_51 rfl
theorem dX12_begin_158 : decode cX12_begin 158 = .ok (.iconst 5, 1) := by decide +kernel
theorem tX12_begin_158 {d : Nat} {l0 l1 l2 l3 l4 l5 l6 l7 l8 l9 l10 : Option Value} {v0 : Value} {m : jmM} {Q : Option Value → jmM → Prop} : AW d 231 158 [l0, l1, l2, l3, l4, l5, l6, l7, l8, l9, l10] [v0] m Q ↔ AW d 231 159 [l0, l1, l2, l3, l4, l5, l6, l7, l8, l9, l10] [.int 5, v0] m Q := A_iconst hB_X12_begin dX12_begin_158 (by decide)
theorem dX12_begin_159 : decode cX12_begin 159 = .ok (.iload 5, 2) := by decide +kernel
theorem tX12_begin_159 {d : Nat} {l0 l1 l2 l3 l4 l6 l7 l8 l9 l10 : Option Value} {v0 v1 : Value} {x : Int32} {m : jmM} {Q : Option Value → jmM → Prop} : AW d 231 159 [l0, l1, l2, l3, l4, some (.int x), l6, l7, l8, l9, l10] [v0, v1] m Q ↔ AW d 231 161 [l0, l1, l2, l3, l4, some (.int x), l6, l7, l8, l9, l10] [.int x, v0, v1] m Q := A_iload hB_X12_begin dX12_begin_159 rfl
theorem dX12_begin_161 : decode cX12_begin 161 = .ok (.iastore, 1) := by decide +kernel
theorem tX12_begin_161 {d : Nat} {l0 l1 l2 l3 l4 l5 l6 l7 l8 l9 l10 : Option Value} {x i : Int32} {a : Nat} {m : jmM} {Q : Option Value → jmM → Prop} : AW d 231 161 [l0, l1, l2, l3, l4, l5, l6, l7, l8, l9, l10] [.int x, .int i, .ref a] m Q ↔ ((mS m a).1 = 20 ∧ jIx i (mS m a).2) ∧ AW d 231 162 [l0, l1, l2, l3, l4, l5, l6, l7, l8, l9, l10] [] (cI m a (jup (mI m a) (jx i) x)) Q := A_iastore hB_X12_begin dX12_begin_161
theorem dX12_begin_162 : decode cX12_begin 162 = .ok (.aload_n 0, 1) := by decide +kernel
theorem tX12_begin_162 {d : Nat} {l1 l2 l3 l4 l5 l6 l7 l8 l9 l10 : Option Value} {x : Nat} {m : jmM} {Q : Option Value → jmM → Prop} : AW d 231 162 [some (.ref x), l1, l2, l3, l4, l5, l6, l7, l8, l9, l10] [] m Q ↔ AW d 231 163 [some (.ref x), l1, l2, l3, l4, l5, l6, l7, l8, l9, l10] [.ref x] m Q := A_aload_n hB_X12_begin dX12_begin_162 rfl
theorem dX12_begin_163 : decode cX12_begin 163 = .ok (.getfield 51, 3) := by decide +kernel
theorem tX12_begin_163 {d : Nat} {l0 l1 l2 l3 l4 l5 l6 l7 l8 l9 l10 : Option Value} {a : Nat} {m : jmM} {Q : Option Value → jmM → Prop} : AW d 231 163 [l0, l1, l2, l3, l4, l5, l6, l7, l8, l9, l10] [.ref a] m Q ↔ (mS m a).1 = 12 ∧ AW d 231 166 [l0, l1, l2, l3, l4, l5, l6, l7, l8, l9, l10] [va_rf (mR m a 25)] m Q := A_getfield (f := fun m a => va_rf (mR m a 25)) hB_X12_begin dX12_begin_163 hO_X12_begin fF_12_51 rfl
theorem dX12_begin_166 : decode cX12_begin 166 = .ok (.bipush 6, 2) := by decide +kernel
theorem tX12_begin_166 {d : Nat} {l0 l1 l2 l3 l4 l5 l6 l7 l8 l9 l10 : Option Value} {v0 : Value} {m : jmM} {Q : Option Value → jmM → Prop} : AW d 231 166 [l0, l1, l2, l3, l4, l5, l6, l7, l8, l9, l10] [v0] m Q ↔ AW d 231 168 [l0, l1, l2, l3, l4, l5, l6, l7, l8, l9, l10] [.int 6, v0] m Q := A_bipush hB_X12_begin dX12_begin_166 rfl
theorem dX12_begin_168 : decode cX12_begin 168 = .ok (.iload 6, 2) := by decide +kernel
theorem tX12_begin_168 {d : Nat} {l0 l1 l2 l3 l4 l5 l7 l8 l9 l10 : Option Value} {v0 v1 : Value} {x : Int32} {m : jmM} {Q : Option Value → jmM → Prop} : AW d 231 168 [l0, l1, l2, l3, l4, l5, some (.int x), l7, l8, l9, l10] [v0, v1] m Q ↔ AW d 231 170 [l0, l1, l2, l3, l4, l5, some (.int x), l7, l8, l9, l10] [.int x, v0, v1] m Q := A_iload hB_X12_begin dX12_begin_168 rfl
theorem dX12_begin_170 : decode cX12_begin 170 = .ok (.iastore, 1) := by decide +kernel
theorem tX12_begin_170 {d : Nat} {l0 l1 l2 l3 l4 l5 l6 l7 l8 l9 l10 : Option Value} {x i : Int32} {a : Nat} {m : jmM} {Q : Option Value → jmM → Prop} : AW d 231 170 [l0, l1, l2, l3, l4, l5, l6, l7, l8, l9, l10] [.int x, .int i, .ref a] m Q ↔ ((mS m a).1 = 20 ∧ jIx i (mS m a).2) ∧ AW d 231 171 [l0, l1, l2, l3, l4, l5, l6, l7, l8, l9, l10] [] (cI m a (jup (mI m a) (jx i) x)) Q := A_iastore hB_X12_begin dX12_begin_170
theorem dX12_begin_171 : decode cX12_begin 171 = .ok (.aload_n 0, 1) := by decide +kernel
theorem tX12_begin_171 {d : Nat} {l1 l2 l3 l4 l5 l6 l7 l8 l9 l10 : Option Value} {x : Nat} {m : jmM} {Q : Option Value → jmM → Prop} : AW d 231 171 [some (.ref x), l1, l2, l3, l4, l5, l6, l7, l8, l9, l10] [] m Q ↔ AW d 231 172 [some (.ref x), l1, l2, l3, l4, l5, l6, l7, l8, l9, l10] [.ref x] m Q := A_aload_n hB_X12_begin dX12_begin_171 rfl
theorem dX12_begin_172 : decode cX12_begin 172 = .ok (.getfield 51, 3) := by decide +kernel
theorem tX12_begin_172 {d : Nat} {l0 l1 l2 l3 l4 l5 l6 l7 l8 l9 l10 : Option Value} {a : Nat} {m : jmM} {Q : Option Value → jmM → Prop} : AW d 231 172 [l0, l1, l2, l3, l4, l5, l6, l7, l8, l9, l10] [.ref a] m Q ↔ (mS m a).1 = 12 ∧ AW d 231 175 [l0, l1, l2, l3, l4, l5, l6, l7, l8, l9, l10] [va_rf (mR m a 25)] m Q := A_getfield (f := fun m a => va_rf (mR m a 25)) hB_X12_begin dX12_begin_172 hO_X12_begin fF_12_51 rfl
theorem dX12_begin_175 : decode cX12_begin 175 = .ok (.bipush 7, 2) := by decide +kernel
theorem tX12_begin_175 {d : Nat} {l0 l1 l2 l3 l4 l5 l6 l7 l8 l9 l10 : Option Value} {v0 : Value} {m : jmM} {Q : Option Value → jmM → Prop} : AW d 231 175 [l0, l1, l2, l3, l4, l5, l6, l7, l8, l9, l10] [v0] m Q ↔ AW d 231 177 [l0, l1, l2, l3, l4, l5, l6, l7, l8, l9, l10] [.int 7, v0] m Q := A_bipush hB_X12_begin dX12_begin_175 rfl
theorem dX12_begin_177 : decode cX12_begin 177 = .ok (.iload 8, 2) := by decide +kernel
theorem tX12_begin_177 {d : Nat} {l0 l1 l2 l3 l4 l5 l6 l7 l9 l10 : Option Value} {v0 v1 : Value} {x : Int32} {m : jmM} {Q : Option Value → jmM → Prop} : AW d 231 177 [l0, l1, l2, l3, l4, l5, l6, l7, some (.int x), l9, l10] [v0, v1] m Q ↔ AW d 231 179 [l0, l1, l2, l3, l4, l5, l6, l7, some (.int x), l9, l10] [.int x, v0, v1] m Q := A_iload hB_X12_begin dX12_begin_177 rfl
theorem dX12_begin_179 : decode cX12_begin 179 = .ok (.iastore, 1) := by decide +kernel
theorem tX12_begin_179 {d : Nat} {l0 l1 l2 l3 l4 l5 l6 l7 l8 l9 l10 : Option Value} {x i : Int32} {a : Nat} {m : jmM} {Q : Option Value → jmM → Prop} : AW d 231 179 [l0, l1, l2, l3, l4, l5, l6, l7, l8, l9, l10] [.int x, .int i, .ref a] m Q ↔ ((mS m a).1 = 20 ∧ jIx i (mS m a).2) ∧ AW d 231 180 [l0, l1, l2, l3, l4, l5, l6, l7, l8, l9, l10] [] (cI m a (jup (mI m a) (jx i) x)) Q := A_iastore hB_X12_begin dX12_begin_179
theorem dX12_begin_180 : decode cX12_begin 180 = .ok (.aload_n 0, 1) := by decide +kernel
theorem tX12_begin_180 {d : Nat} {l1 l2 l3 l4 l5 l6 l7 l8 l9 l10 : Option Value} {x : Nat} {m : jmM} {Q : Option Value → jmM → Prop} : AW d 231 180 [some (.ref x), l1, l2, l3, l4, l5, l6, l7, l8, l9, l10] [] m Q ↔ AW d 231 181 [some (.ref x), l1, l2, l3, l4, l5, l6, l7, l8, l9, l10] [.ref x] m Q := A_aload_n hB_X12_begin dX12_begin_180 rfl
theorem dX12_begin_181 : decode cX12_begin 181 = .ok (.getfield 51, 3) := by decide +kernel
theorem tX12_begin_181 {d : Nat} {l0 l1 l2 l3 l4 l5 l6 l7 l8 l9 l10 : Option Value} {a : Nat} {m : jmM} {Q : Option Value → jmM → Prop} : AW d 231 181 [l0, l1, l2, l3, l4, l5, l6, l7, l8, l9, l10] [.ref a] m Q ↔ (mS m a).1 = 12 ∧ AW d 231 184 [l0, l1, l2, l3, l4, l5, l6, l7, l8, l9, l10] [va_rf (mR m a 25)] m Q := A_getfield (f := fun m a => va_rf (mR m a 25)) hB_X12_begin dX12_begin_181 hO_X12_begin fF_12_51 rfl
theorem dX12_begin_184 : decode cX12_begin 184 = .ok (.bipush 8, 2) := by decide +kernel
theorem tX12_begin_184 {d : Nat} {l0 l1 l2 l3 l4 l5 l6 l7 l8 l9 l10 : Option Value} {v0 : Value} {m : jmM} {Q : Option Value → jmM → Prop} : AW d 231 184 [l0, l1, l2, l3, l4, l5, l6, l7, l8, l9, l10] [v0] m Q ↔ AW d 231 186 [l0, l1, l2, l3, l4, l5, l6, l7, l8, l9, l10] [.int 8, v0] m Q := A_bipush hB_X12_begin dX12_begin_184 rfl
theorem dX12_begin_186 : decode cX12_begin 186 = .ok (.iload 9, 2) := by decide +kernel
theorem tX12_begin_186 {d : Nat} {l0 l1 l2 l3 l4 l5 l6 l7 l8 l10 : Option Value} {v0 v1 : Value} {x : Int32} {m : jmM} {Q : Option Value → jmM → Prop} : AW d 231 186 [l0, l1, l2, l3, l4, l5, l6, l7, l8, some (.int x), l10] [v0, v1] m Q ↔ AW d 231 188 [l0, l1, l2, l3, l4, l5, l6, l7, l8, some (.int x), l10] [.int x, v0, v1] m Q := A_iload hB_X12_begin dX12_begin_186 rfl
theorem dX12_begin_188 : decode cX12_begin 188 = .ok (.iastore, 1) := by decide +kernel
theorem tX12_begin_188 {d : Nat} {l0 l1 l2 l3 l4 l5 l6 l7 l8 l9 l10 : Option Value} {x i : Int32} {a : Nat} {m : jmM} {Q : Option Value → jmM → Prop} : AW d 231 188 [l0, l1, l2, l3, l4, l5, l6, l7, l8, l9, l10] [.int x, .int i, .ref a] m Q ↔ ((mS m a).1 = 20 ∧ jIx i (mS m a).2) ∧ AW d 231 189 [l0, l1, l2, l3, l4, l5, l6, l7, l8, l9, l10] [] (cI m a (jup (mI m a) (jx i) x)) Q := A_iastore hB_X12_begin dX12_begin_188
theorem dX12_begin_189 : decode cX12_begin 189 = .ok (.aload_n 0, 1) := by decide +kernel
theorem tX12_begin_189 {d : Nat} {l1 l2 l3 l4 l5 l6 l7 l8 l9 l10 : Option Value} {x : Nat} {m : jmM} {Q : Option Value → jmM → Prop} : AW d 231 189 [some (.ref x), l1, l2, l3, l4, l5, l6, l7, l8, l9, l10] [] m Q ↔ AW d 231 190 [some (.ref x), l1, l2, l3, l4, l5, l6, l7, l8, l9, l10] [.ref x] m Q := A_aload_n hB_X12_begin dX12_begin_189 rfl
theorem dX12_begin_190 : decode cX12_begin 190 = .ok (.getfield 51, 3) := by decide +kernel
theorem tX12_begin_190 {d : Nat} {l0 l1 l2 l3 l4 l5 l6 l7 l8 l9 l10 : Option Value} {a : Nat} {m : jmM} {Q : Option Value → jmM → Prop} : AW d 231 190 [l0, l1, l2, l3, l4, l5, l6, l7, l8, l9, l10] [.ref a] m Q ↔ (mS m a).1 = 12 ∧ AW d 231 193 [l0, l1, l2, l3, l4, l5, l6, l7, l8, l9, l10] [va_rf (mR m a 25)] m Q := A_getfield (f := fun m a => va_rf (mR m a 25)) hB_X12_begin dX12_begin_190 hO_X12_begin fF_12_51 rfl
theorem dX12_begin_193 : decode cX12_begin 193 = .ok (.bipush 9, 2) := by decide +kernel
theorem tX12_begin_193 {d : Nat} {l0 l1 l2 l3 l4 l5 l6 l7 l8 l9 l10 : Option Value} {v0 : Value} {m : jmM} {Q : Option Value → jmM → Prop} : AW d 231 193 [l0, l1, l2, l3, l4, l5, l6, l7, l8, l9, l10] [v0] m Q ↔ AW d 231 195 [l0, l1, l2, l3, l4, l5, l6, l7, l8, l9, l10] [.int 9, v0] m Q := A_bipush hB_X12_begin dX12_begin_193 rfl
theorem dX12_begin_195 : decode cX12_begin 195 = .ok (.iload_n 3, 1) := by decide +kernel
theorem tX12_begin_195 {d : Nat} {l0 l1 l2 l4 l5 l6 l7 l8 l9 l10 : Option Value} {v0 v1 : Value} {x : Int32} {m : jmM} {Q : Option Value → jmM → Prop} : AW d 231 195 [l0, l1, l2, some (.int x), l4, l5, l6, l7, l8, l9, l10] [v0, v1] m Q ↔ AW d 231 196 [l0, l1, l2, some (.int x), l4, l5, l6, l7, l8, l9, l10] [.int x, v0, v1] m Q := A_iload_n hB_X12_begin dX12_begin_195 rfl
theorem dX12_begin_196 : decode cX12_begin 196 = .ok (.iastore, 1) := by decide +kernel
theorem tX12_begin_196 {d : Nat} {l0 l1 l2 l3 l4 l5 l6 l7 l8 l9 l10 : Option Value} {x i : Int32} {a : Nat} {m : jmM} {Q : Option Value → jmM → Prop} : AW d 231 196 [l0, l1, l2, l3, l4, l5, l6, l7, l8, l9, l10] [.int x, .int i, .ref a] m Q ↔ ((mS m a).1 = 20 ∧ jIx i (mS m a).2) ∧ AW d 231 197 [l0, l1, l2, l3, l4, l5, l6, l7, l8, l9, l10] [] (cI m a (jup (mI m a) (jx i) x)) Q := A_iastore hB_X12_begin dX12_begin_196
theorem dX12_begin_197 : decode cX12_begin 197 = .ok (.aload_n 0, 1) := by decide +kernel
theorem tX12_begin_197 {d : Nat} {l1 l2 l3 l4 l5 l6 l7 l8 l9 l10 : Option Value} {x : Nat} {m : jmM} {Q : Option Value → jmM → Prop} : AW d 231 197 [some (.ref x), l1, l2, l3, l4, l5, l6, l7, l8, l9, l10] [] m Q ↔ AW d 231 198 [some (.ref x), l1, l2, l3, l4, l5, l6, l7, l8, l9, l10] [.ref x] m Q := A_aload_n hB_X12_begin dX12_begin_197 rfl
theorem dX12_begin_198 : decode cX12_begin 198 = .ok (.getfield 51, 3) := by decide +kernel
theorem tX12_begin_198 {d : Nat} {l0 l1 l2 l3 l4 l5 l6 l7 l8 l9 l10 : Option Value} {a : Nat} {m : jmM} {Q : Option Value → jmM → Prop} : AW d 231 198 [l0, l1, l2, l3, l4, l5, l6, l7, l8, l9, l10] [.ref a] m Q ↔ (mS m a).1 = 12 ∧ AW d 231 201 [l0, l1, l2, l3, l4, l5, l6, l7, l8, l9, l10] [va_rf (mR m a 25)] m Q := A_getfield (f := fun m a => va_rf (mR m a 25)) hB_X12_begin dX12_begin_198 hO_X12_begin fF_12_51 rfl
theorem dX12_begin_201 : decode cX12_begin 201 = .ok (.bipush 10, 2) := by decide +kernel
theorem tX12_begin_201 {d : Nat} {l0 l1 l2 l3 l4 l5 l6 l7 l8 l9 l10 : Option Value} {v0 : Value} {m : jmM} {Q : Option Value → jmM → Prop} : AW d 231 201 [l0, l1, l2, l3, l4, l5, l6, l7, l8, l9, l10] [v0] m Q ↔ AW d 231 203 [l0, l1, l2, l3, l4, l5, l6, l7, l8, l9, l10] [.int 10, v0] m Q := A_bipush hB_X12_begin dX12_begin_201 rfl
theorem dX12_begin_203 : decode cX12_begin 203 = .ok (.iload 6, 2) := by decide +kernel
theorem tX12_begin_203 {d : Nat} {l0 l1 l2 l3 l4 l5 l7 l8 l9 l10 : Option Value} {v0 v1 : Value} {x : Int32} {m : jmM} {Q : Option Value → jmM → Prop} : AW d 231 203 [l0, l1, l2, l3, l4, l5, some (.int x), l7, l8, l9, l10] [v0, v1] m Q ↔ AW d 231 205 [l0, l1, l2, l3, l4, l5, some (.int x), l7, l8, l9, l10] [.int x, v0, v1] m Q := A_iload hB_X12_begin dX12_begin_203 rfl
theorem dX12_begin_205 : decode cX12_begin 205 = .ok (.iastore, 1) := by decide +kernel
theorem tX12_begin_205 {d : Nat} {l0 l1 l2 l3 l4 l5 l6 l7 l8 l9 l10 : Option Value} {x i : Int32} {a : Nat} {m : jmM} {Q : Option Value → jmM → Prop} : AW d 231 205 [l0, l1, l2, l3, l4, l5, l6, l7, l8, l9, l10] [.int x, .int i, .ref a] m Q ↔ ((mS m a).1 = 20 ∧ jIx i (mS m a).2) ∧ AW d 231 206 [l0, l1, l2, l3, l4, l5, l6, l7, l8, l9, l10] [] (cI m a (jup (mI m a) (jx i) x)) Q := A_iastore hB_X12_begin dX12_begin_205
theorem dX12_begin_206 : decode cX12_begin 206 = .ok (.aload_n 0, 1) := by decide +kernel
theorem tX12_begin_206 {d : Nat} {l1 l2 l3 l4 l5 l6 l7 l8 l9 l10 : Option Value} {x : Nat} {m : jmM} {Q : Option Value → jmM → Prop} : AW d 231 206 [some (.ref x), l1, l2, l3, l4, l5, l6, l7, l8, l9, l10] [] m Q ↔ AW d 231 207 [some (.ref x), l1, l2, l3, l4, l5, l6, l7, l8, l9, l10] [.ref x] m Q := A_aload_n hB_X12_begin dX12_begin_206 rfl
theorem dX12_begin_207 : decode cX12_begin 207 = .ok (.getfield 51, 3) := by decide +kernel
theorem tX12_begin_207 {d : Nat} {l0 l1 l2 l3 l4 l5 l6 l7 l8 l9 l10 : Option Value} {a : Nat} {m : jmM} {Q : Option Value → jmM → Prop} : AW d 231 207 [l0, l1, l2, l3, l4, l5, l6, l7, l8, l9, l10] [.ref a] m Q ↔ (mS m a).1 = 12 ∧ AW d 231 210 [l0, l1, l2, l3, l4, l5, l6, l7, l8, l9, l10] [va_rf (mR m a 25)] m Q := A_getfield (f := fun m a => va_rf (mR m a 25)) hB_X12_begin dX12_begin_207 hO_X12_begin fF_12_51 rfl
theorem dX12_begin_210 : decode cX12_begin 210 = .ok (.bipush 11, 2) := by decide +kernel
theorem tX12_begin_210 {d : Nat} {l0 l1 l2 l3 l4 l5 l6 l7 l8 l9 l10 : Option Value} {v0 : Value} {m : jmM} {Q : Option Value → jmM → Prop} : AW d 231 210 [l0, l1, l2, l3, l4, l5, l6, l7, l8, l9, l10] [v0] m Q ↔ AW d 231 212 [l0, l1, l2, l3, l4, l5, l6, l7, l8, l9, l10] [.int 11, v0] m Q := A_bipush hB_X12_begin dX12_begin_210 rfl
theorem dX12_begin_212 : decode cX12_begin 212 = .ok (.iload 5, 2) := by decide +kernel
theorem tX12_begin_212 {d : Nat} {l0 l1 l2 l3 l4 l6 l7 l8 l9 l10 : Option Value} {v0 v1 : Value} {x : Int32} {m : jmM} {Q : Option Value → jmM → Prop} : AW d 231 212 [l0, l1, l2, l3, l4, some (.int x), l6, l7, l8, l9, l10] [v0, v1] m Q ↔ AW d 231 214 [l0, l1, l2, l3, l4, some (.int x), l6, l7, l8, l9, l10] [.int x, v0, v1] m Q := A_iload hB_X12_begin dX12_begin_212 rfl
theorem dX12_begin_214 : decode cX12_begin 214 = .ok (.iastore, 1) := by decide +kernel
theorem tX12_begin_214 {d : Nat} {l0 l1 l2 l3 l4 l5 l6 l7 l8 l9 l10 : Option Value} {x i : Int32} {a : Nat} {m : jmM} {Q : Option Value → jmM → Prop} : AW d 231 214 [l0, l1, l2, l3, l4, l5, l6, l7, l8, l9, l10] [.int x, .int i, .ref a] m Q ↔ ((mS m a).1 = 20 ∧ jIx i (mS m a).2) ∧ AW d 231 215 [l0, l1, l2, l3, l4, l5, l6, l7, l8, l9, l10] [] (cI m a (jup (mI m a) (jx i) x)) Q := A_iastore hB_X12_begin dX12_begin_214
theorem dX12_begin_215 : decode cX12_begin 215 = .ok (.aload_n 0, 1) := by decide +kernel
theorem tX12_begin_215 {d : Nat} {l1 l2 l3 l4 l5 l6 l7 l8 l9 l10 : Option Value} {x : Nat} {m : jmM} {Q : Option Value → jmM → Prop} : AW d 231 215 [some (.ref x), l1, l2, l3, l4, l5, l6, l7, l8, l9, l10] [] m Q ↔ AW d 231 216 [some (.ref x), l1, l2, l3, l4, l5, l6, l7, l8, l9, l10] [.ref x] m Q := A_aload_n hB_X12_begin dX12_begin_215 rfl
theorem dX12_begin_216 : decode cX12_begin 216 = .ok (.getfield 51, 3) := by decide +kernel
theorem tX12_begin_216 {d : Nat} {l0 l1 l2 l3 l4 l5 l6 l7 l8 l9 l10 : Option Value} {a : Nat} {m : jmM} {Q : Option Value → jmM → Prop} : AW d 231 216 [l0, l1, l2, l3, l4, l5, l6, l7, l8, l9, l10] [.ref a] m Q ↔ (mS m a).1 = 12 ∧ AW d 231 219 [l0, l1, l2, l3, l4, l5, l6, l7, l8, l9, l10] [va_rf (mR m a 25)] m Q := A_getfield (f := fun m a => va_rf (mR m a 25)) hB_X12_begin dX12_begin_216 hO_X12_begin fF_12_51 rfl
theorem dX12_begin_219 : decode cX12_begin 219 = .ok (.bipush 12, 2) := by decide +kernel
theorem tX12_begin_219 {d : Nat} {l0 l1 l2 l3 l4 l5 l6 l7 l8 l9 l10 : Option Value} {v0 : Value} {m : jmM} {Q : Option Value → jmM → Prop} : AW d 231 219 [l0, l1, l2, l3, l4, l5, l6, l7, l8, l9, l10] [v0] m Q ↔ AW d 231 221 [l0, l1, l2, l3, l4, l5, l6, l7, l8, l9, l10] [.int 12, v0] m Q := A_bipush hB_X12_begin dX12_begin_219 rfl
theorem dX12_begin_221 : decode cX12_begin 221 = .ok (.iconst 0, 1) := by decide +kernel
theorem tX12_begin_221 {d : Nat} {l0 l1 l2 l3 l4 l5 l6 l7 l8 l9 l10 : Option Value} {v0 v1 : Value} {m : jmM} {Q : Option Value → jmM → Prop} : AW d 231 221 [l0, l1, l2, l3, l4, l5, l6, l7, l8, l9, l10] [v0, v1] m Q ↔ AW d 231 222 [l0, l1, l2, l3, l4, l5, l6, l7, l8, l9, l10] [.int 0, v0, v1] m Q := A_iconst hB_X12_begin dX12_begin_221 (by decide)
theorem dX12_begin_222 : decode cX12_begin 222 = .ok (.iastore, 1) := by decide +kernel
theorem tX12_begin_222 {d : Nat} {l0 l1 l2 l3 l4 l5 l6 l7 l8 l9 l10 : Option Value} {x i : Int32} {a : Nat} {m : jmM} {Q : Option Value → jmM → Prop} : AW d 231 222 [l0, l1, l2, l3, l4, l5, l6, l7, l8, l9, l10] [.int x, .int i, .ref a] m Q ↔ ((mS m a).1 = 20 ∧ jIx i (mS m a).2) ∧ AW d 231 223 [l0, l1, l2, l3, l4, l5, l6, l7, l8, l9, l10] [] (cI m a (jup (mI m a) (jx i) x)) Q := A_iastore hB_X12_begin dX12_begin_222
theorem dX12_begin_223 : decode cX12_begin 223 = .ok (.aload_n 0, 1) := by decide +kernel
theorem tX12_begin_223 {d : Nat} {l1 l2 l3 l4 l5 l6 l7 l8 l9 l10 : Option Value} {x : Nat} {m : jmM} {Q : Option Value → jmM → Prop} : AW d 231 223 [some (.ref x), l1, l2, l3, l4, l5, l6, l7, l8, l9, l10] [] m Q ↔ AW d 231 224 [some (.ref x), l1, l2, l3, l4, l5, l6, l7, l8, l9, l10] [.ref x] m Q := A_aload_n hB_X12_begin dX12_begin_223 rfl
theorem dX12_begin_224 : decode cX12_begin 224 = .ok (.getfield 51, 3) := by decide +kernel
theorem tX12_begin_224 {d : Nat} {l0 l1 l2 l3 l4 l5 l6 l7 l8 l9 l10 : Option Value} {a : Nat} {m : jmM} {Q : Option Value → jmM → Prop} : AW d 231 224 [l0, l1, l2, l3, l4, l5, l6, l7, l8, l9, l10] [.ref a] m Q ↔ (mS m a).1 = 12 ∧ AW d 231 227 [l0, l1, l2, l3, l4, l5, l6, l7, l8, l9, l10] [va_rf (mR m a 25)] m Q := A_getfield (f := fun m a => va_rf (mR m a 25)) hB_X12_begin dX12_begin_224 hO_X12_begin fF_12_51 rfl
theorem dX12_begin_227 : decode cX12_begin 227 = .ok (.bipush 13, 2) := by decide +kernel
theorem tX12_begin_227 {d : Nat} {l0 l1 l2 l3 l4 l5 l6 l7 l8 l9 l10 : Option Value} {v0 : Value} {m : jmM} {Q : Option Value → jmM → Prop} : AW d 231 227 [l0, l1, l2, l3, l4, l5, l6, l7, l8, l9, l10] [v0] m Q ↔ AW d 231 229 [l0, l1, l2, l3, l4, l5, l6, l7, l8, l9, l10] [.int 13, v0] m Q := A_bipush hB_X12_begin dX12_begin_227 rfl
theorem dX12_begin_229 : decode cX12_begin 229 = .ok (.iconst 0, 1) := by decide +kernel
theorem tX12_begin_229 {d : Nat} {l0 l1 l2 l3 l4 l5 l6 l7 l8 l9 l10 : Option Value} {v0 v1 : Value} {m : jmM} {Q : Option Value → jmM → Prop} : AW d 231 229 [l0, l1, l2, l3, l4, l5, l6, l7, l8, l9, l10] [v0, v1] m Q ↔ AW d 231 230 [l0, l1, l2, l3, l4, l5, l6, l7, l8, l9, l10] [.int 0, v0, v1] m Q := A_iconst hB_X12_begin dX12_begin_229 (by decide)
theorem dX12_begin_230 : decode cX12_begin 230 = .ok (.iastore, 1) := by decide +kernel
theorem tX12_begin_230 {d : Nat} {l0 l1 l2 l3 l4 l5 l6 l7 l8 l9 l10 : Option Value} {x i : Int32} {a : Nat} {m : jmM} {Q : Option Value → jmM → Prop} : AW d 231 230 [l0, l1, l2, l3, l4, l5, l6, l7, l8, l9, l10] [.int x, .int i, .ref a] m Q ↔ ((mS m a).1 = 20 ∧ jIx i (mS m a).2) ∧ AW d 231 231 [l0, l1, l2, l3, l4, l5, l6, l7, l8, l9, l10] [] (cI m a (jup (mI m a) (jx i) x)) Q := A_iastore hB_X12_begin dX12_begin_230
theorem dX12_begin_231 : decode cX12_begin 231 = .ok (.aload_n 0, 1) := by decide +kernel
theorem tX12_begin_231 {d : Nat} {l1 l2 l3 l4 l5 l6 l7 l8 l9 l10 : Option Value} {x : Nat} {m : jmM} {Q : Option Value → jmM → Prop} : AW d 231 231 [some (.ref x), l1, l2, l3, l4, l5, l6, l7, l8, l9, l10] [] m Q ↔ AW d 231 232 [some (.ref x), l1, l2, l3, l4, l5, l6, l7, l8, l9, l10] [.ref x] m Q := A_aload_n hB_X12_begin dX12_begin_231 rfl
theorem dX12_begin_232 : decode cX12_begin 232 = .ok (.getfield 51, 3) := by decide +kernel
theorem tX12_begin_232 {d : Nat} {l0 l1 l2 l3 l4 l5 l6 l7 l8 l9 l10 : Option Value} {a : Nat} {m : jmM} {Q : Option Value → jmM → Prop} : AW d 231 232 [l0, l1, l2, l3, l4, l5, l6, l7, l8, l9, l10] [.ref a] m Q ↔ (mS m a).1 = 12 ∧ AW d 231 235 [l0, l1, l2, l3, l4, l5, l6, l7, l8, l9, l10] [va_rf (mR m a 25)] m Q := A_getfield (f := fun m a => va_rf (mR m a 25)) hB_X12_begin dX12_begin_232 hO_X12_begin fF_12_51 rfl
theorem dX12_begin_235 : decode cX12_begin 235 = .ok (.bipush 14, 2) := by decide +kernel
theorem tX12_begin_235 {d : Nat} {l0 l1 l2 l3 l4 l5 l6 l7 l8 l9 l10 : Option Value} {v0 : Value} {m : jmM} {Q : Option Value → jmM → Prop} : AW d 231 235 [l0, l1, l2, l3, l4, l5, l6, l7, l8, l9, l10] [v0] m Q ↔ AW d 231 237 [l0, l1, l2, l3, l4, l5, l6, l7, l8, l9, l10] [.int 14, v0] m Q := A_bipush hB_X12_begin dX12_begin_235 rfl
theorem dX12_begin_237 : decode cX12_begin 237 = .ok (.iconst 0, 1) := by decide +kernel
theorem tX12_begin_237 {d : Nat} {l0 l1 l2 l3 l4 l5 l6 l7 l8 l9 l10 : Option Value} {v0 v1 : Value} {m : jmM} {Q : Option Value → jmM → Prop} : AW d 231 237 [l0, l1, l2, l3, l4, l5, l6, l7, l8, l9, l10] [v0, v1] m Q ↔ AW d 231 238 [l0, l1, l2, l3, l4, l5, l6, l7, l8, l9, l10] [.int 0, v0, v1] m Q := A_iconst hB_X12_begin dX12_begin_237 (by decide)
theorem dX12_begin_238 : decode cX12_begin 238 = .ok (.iastore, 1) := by decide +kernel
theorem tX12_begin_238 {d : Nat} {l0 l1 l2 l3 l4 l5 l6 l7 l8 l9 l10 : Option Value} {x i : Int32} {a : Nat} {m : jmM} {Q : Option Value → jmM → Prop} : AW d 231 238 [l0, l1, l2, l3, l4, l5, l6, l7, l8, l9, l10] [.int x, .int i, .ref a] m Q ↔ ((mS m a).1 = 20 ∧ jIx i (mS m a).2) ∧ AW d 231 239 [l0, l1, l2, l3, l4, l5, l6, l7, l8, l9, l10] [] (cI m a (jup (mI m a) (jx i) x)) Q := A_iastore hB_X12_begin dX12_begin_238
theorem dX12_begin_239 : decode cX12_begin 239 = .ok (.aload_n 0, 1) := by decide +kernel
theorem tX12_begin_239 {d : Nat} {l1 l2 l3 l4 l5 l6 l7 l8 l9 l10 : Option Value} {x : Nat} {m : jmM} {Q : Option Value → jmM → Prop} : AW d 231 239 [some (.ref x), l1, l2, l3, l4, l5, l6, l7, l8, l9, l10] [] m Q ↔ AW d 231 240 [some (.ref x), l1, l2, l3, l4, l5, l6, l7, l8, l9, l10] [.ref x] m Q := A_aload_n hB_X12_begin dX12_begin_239 rfl
theorem dX12_begin_240 : decode cX12_begin 240 = .ok (.getfield 51, 3) := by decide +kernel
theorem tX12_begin_240 {d : Nat} {l0 l1 l2 l3 l4 l5 l6 l7 l8 l9 l10 : Option Value} {a : Nat} {m : jmM} {Q : Option Value → jmM → Prop} : AW d 231 240 [l0, l1, l2, l3, l4, l5, l6, l7, l8, l9, l10] [.ref a] m Q ↔ (mS m a).1 = 12 ∧ AW d 231 243 [l0, l1, l2, l3, l4, l5, l6, l7, l8, l9, l10] [va_rf (mR m a 25)] m Q := A_getfield (f := fun m a => va_rf (mR m a 25)) hB_X12_begin dX12_begin_240 hO_X12_begin fF_12_51 rfl
theorem dX12_begin_243 : decode cX12_begin 243 = .ok (.bipush 15, 2) := by decide +kernel
theorem tX12_begin_243 {d : Nat} {l0 l1 l2 l3 l4 l5 l6 l7 l8 l9 l10 : Option Value} {v0 : Value} {m : jmM} {Q : Option Value → jmM → Prop} : AW d 231 243 [l0, l1, l2, l3, l4, l5, l6, l7, l8, l9, l10] [v0] m Q ↔ AW d 231 245 [l0, l1, l2, l3, l4, l5, l6, l7, l8, l9, l10] [.int 15, v0] m Q := A_bipush hB_X12_begin dX12_begin_243 rfl
theorem dX12_begin_245 : decode cX12_begin 245 = .ok (.iconst 0, 1) := by decide +kernel
theorem tX12_begin_245 {d : Nat} {l0 l1 l2 l3 l4 l5 l6 l7 l8 l9 l10 : Option Value} {v0 v1 : Value} {m : jmM} {Q : Option Value → jmM → Prop} : AW d 231 245 [l0, l1, l2, l3, l4, l5, l6, l7, l8, l9, l10] [v0, v1] m Q ↔ AW d 231 246 [l0, l1, l2, l3, l4, l5, l6, l7, l8, l9, l10] [.int 0, v0, v1] m Q := A_iconst hB_X12_begin dX12_begin_245 (by decide)
theorem dX12_begin_246 : decode cX12_begin 246 = .ok (.iastore, 1) := by decide +kernel
theorem tX12_begin_246 {d : Nat} {l0 l1 l2 l3 l4 l5 l6 l7 l8 l9 l10 : Option Value} {x i : Int32} {a : Nat} {m : jmM} {Q : Option Value → jmM → Prop} : AW d 231 246 [l0, l1, l2, l3, l4, l5, l6, l7, l8, l9, l10] [.int x, .int i, .ref a] m Q ↔ ((mS m a).1 = 20 ∧ jIx i (mS m a).2) ∧ AW d 231 247 [l0, l1, l2, l3, l4, l5, l6, l7, l8, l9, l10] [] (cI m a (jup (mI m a) (jx i) x)) Q := A_iastore hB_X12_begin dX12_begin_246
theorem dX12_begin_247 : decode cX12_begin 247 = .ok (.aload_n 0, 1) := by decide +kernel
theorem tX12_begin_247 {d : Nat} {l1 l2 l3 l4 l5 l6 l7 l8 l9 l10 : Option Value} {x : Nat} {m : jmM} {Q : Option Value → jmM → Prop} : AW d 231 247 [some (.ref x), l1, l2, l3, l4, l5, l6, l7, l8, l9, l10] [] m Q ↔ AW d 231 248 [some (.ref x), l1, l2, l3, l4, l5, l6, l7, l8, l9, l10] [.ref x] m Q := A_aload_n hB_X12_begin dX12_begin_247 rfl
theorem dX12_begin_248 : decode cX12_begin 248 = .ok (.getfield 51, 3) := by decide +kernel
theorem tX12_begin_248 {d : Nat} {l0 l1 l2 l3 l4 l5 l6 l7 l8 l9 l10 : Option Value} {a : Nat} {m : jmM} {Q : Option Value → jmM → Prop} : AW d 231 248 [l0, l1, l2, l3, l4, l5, l6, l7, l8, l9, l10] [.ref a] m Q ↔ (mS m a).1 = 12 ∧ AW d 231 251 [l0, l1, l2, l3, l4, l5, l6, l7, l8, l9, l10] [va_rf (mR m a 25)] m Q := A_getfield (f := fun m a => va_rf (mR m a 25)) hB_X12_begin dX12_begin_248 hO_X12_begin fF_12_51 rfl
theorem dX12_begin_251 : decode cX12_begin 251 = .ok (.bipush 16, 2) := by decide +kernel
theorem tX12_begin_251 {d : Nat} {l0 l1 l2 l3 l4 l5 l6 l7 l8 l9 l10 : Option Value} {v0 : Value} {m : jmM} {Q : Option Value → jmM → Prop} : AW d 231 251 [l0, l1, l2, l3, l4, l5, l6, l7, l8, l9, l10] [v0] m Q ↔ AW d 231 253 [l0, l1, l2, l3, l4, l5, l6, l7, l8, l9, l10] [.int 16, v0] m Q := A_bipush hB_X12_begin dX12_begin_251 rfl
theorem dX12_begin_253 : decode cX12_begin 253 = .ok (.iload 7, 2) := by decide +kernel
theorem tX12_begin_253 {d : Nat} {l0 l1 l2 l3 l4 l5 l6 l8 l9 l10 : Option Value} {v0 v1 : Value} {x : Int32} {m : jmM} {Q : Option Value → jmM → Prop} : AW d 231 253 [l0, l1, l2, l3, l4, l5, l6, some (.int x), l8, l9, l10] [v0, v1] m Q ↔ AW d 231 255 [l0, l1, l2, l3, l4, l5, l6, some (.int x), l8, l9, l10] [.int x, v0, v1] m Q := A_iload hB_X12_begin dX12_begin_253 rfl
theorem dX12_begin_255 : decode cX12_begin 255 = .ok (.iastore, 1) := by decide +kernel
theorem tX12_begin_255 {d : Nat} {l0 l1 l2 l3 l4 l5 l6 l7 l8 l9 l10 : Option Value} {x i : Int32} {a : Nat} {m : jmM} {Q : Option Value → jmM → Prop} : AW d 231 255 [l0, l1, l2, l3, l4, l5, l6, l7, l8, l9, l10] [.int x, .int i, .ref a] m Q ↔ ((mS m a).1 = 20 ∧ jIx i (mS m a).2) ∧ AW d 231 256 [l0, l1, l2, l3, l4, l5, l6, l7, l8, l9, l10] [] (cI m a (jup (mI m a) (jx i) x)) Q := A_iastore hB_X12_begin dX12_begin_255
theorem dX12_begin_256 : decode cX12_begin 256 = .ok (.iconst 0, 1) := by decide +kernel
theorem tX12_begin_256 {d : Nat} {l0 l1 l2 l3 l4 l5 l6 l7 l8 l9 l10 : Option Value} {m : jmM} {Q : Option Value → jmM → Prop} : AW d 231 256 [l0, l1, l2, l3, l4, l5, l6, l7, l8, l9, l10] [] m Q ↔ AW d 231 257 [l0, l1, l2, l3, l4, l5, l6, l7, l8, l9, l10] [.int 0] m Q := A_iconst hB_X12_begin dX12_begin_256 (by decide)
theorem dX12_begin_257 : decode cX12_begin 257 = .ok (.istore 10, 2) := by decide +kernel
theorem tX12_begin_257 {d : Nat} {l0 l1 l2 l3 l4 l5 l6 l7 l8 l9 l10 : Option Value} {x : Int32} {m : jmM} {Q : Option Value → jmM → Prop} : AW d 231 257 [l0, l1, l2, l3, l4, l5, l6, l7, l8, l9, l10] [.int x] m Q ↔ AW d 231 259 [l0, l1, l2, l3, l4, l5, l6, l7, l8, jc1 l9, some (.int x)] [] m Q := A_istore hB_X12_begin dX12_begin_257 (Nat.le_of_ble_eq_true rfl) rfl
theorem dX12_begin_259 : decode cX12_begin 259 = .ok (.iload 10, 2) := by decide +kernel
theorem tX12_begin_259 {d : Nat} {l0 l1 l2 l3 l4 l5 l6 l7 l8 l9 : Option Value} {x : Int32} {m : jmM} {Q : Option Value → jmM → Prop} : AW d 231 259 [l0, l1, l2, l3, l4, l5, l6, l7, l8, l9, some (.int x)] [] m Q ↔ AW d 231 261 [l0, l1, l2, l3, l4, l5, l6, l7, l8, l9, some (.int x)] [.int x] m Q := A_iload hB_X12_begin dX12_begin_259 rfl
theorem dX12_begin_261 : decode cX12_begin 261 = .ok (.bipush 6, 2) := by decide +kernel
theorem tX12_begin_261 {d : Nat} {l0 l1 l2 l3 l4 l5 l6 l7 l8 l9 l10 : Option Value} {v0 : Value} {m : jmM} {Q : Option Value → jmM → Prop} : AW d 231 261 [l0, l1, l2, l3, l4, l5, l6, l7, l8, l9, l10] [v0] m Q ↔ AW d 231 263 [l0, l1, l2, l3, l4, l5, l6, l7, l8, l9, l10] [.int 6, v0] m Q := A_bipush hB_X12_begin dX12_begin_261 rfl
theorem dX12_begin_263 : decode cX12_begin 263 = .ok (.if_icmp .ge 52, 3) := by decide +kernel
theorem tX12_begin_263 {d : Nat} {l0 l1 l2 l3 l4 l5 l6 l7 l8 l9 l10 : Option Value} {x y : Int32} {m : jmM} {Q : Option Value → jmM → Prop} : AW d 231 263 [l0, l1, l2, l3, l4, l5, l6, l7, l8, l9, l10] [.int y, .int x] m Q ↔ if y ≤ x then AW d 231 315 [l0, l1, l2, l3, l4, l5, l6, l7, l8, l9, l10] [] m Q else AW d 231 266 [l0, l1, l2, l3, l4, l5, l6, l7, l8, l9, l10] [] m Q := A_icmp_ge hB_X12_begin dX12_begin_263 (by decide)
theorem dX12_begin_266 : decode cX12_begin 266 = .ok (.aload_n 0, 1) := by decide +kernel
theorem tX12_begin_266 {d : Nat} {l1 l2 l3 l4 l5 l6 l7 l8 l9 l10 : Option Value} {x : Nat} {m : jmM} {Q : Option Value → jmM → Prop} : AW d 231 266 [some (.ref x), l1, l2, l3, l4, l5, l6, l7, l8, l9, l10] [] m Q ↔ AW d 231 267 [some (.ref x), l1, l2, l3, l4, l5, l6, l7, l8, l9, l10] [.ref x] m Q := A_aload_n hB_X12_begin dX12_begin_266 rfl
theorem dX12_begin_267 : decode cX12_begin 267 = .ok (.getfield 57, 3) := by decide +kernel
theorem tX12_begin_267 {d : Nat} {l0 l1 l2 l3 l4 l5 l6 l7 l8 l9 l10 : Option Value} {a : Nat} {m : jmM} {Q : Option Value → jmM → Prop} : AW d 231 267 [l0, l1, l2, l3, l4, l5, l6, l7, l8, l9, l10] [.ref a] m Q ↔ (mS m a).1 = 12 ∧ AW d 231 270 [l0, l1, l2, l3, l4, l5, l6, l7, l8, l9, l10] [va_rf (mR m a 27)] m Q := A_getfield (f := fun m a => va_rf (mR m a 27)) hB_X12_begin dX12_begin_267 hO_X12_begin fF_12_57 rfl
theorem dX12_begin_270 : decode cX12_begin 270 = .ok (.iload 10, 2) := by decide +kernel
theorem tX12_begin_270 {d : Nat} {l0 l1 l2 l3 l4 l5 l6 l7 l8 l9 : Option Value} {v0 : Value} {x : Int32} {m : jmM} {Q : Option Value → jmM → Prop} : AW d 231 270 [l0, l1, l2, l3, l4, l5, l6, l7, l8, l9, some (.int x)] [v0] m Q ↔ AW d 231 272 [l0, l1, l2, l3, l4, l5, l6, l7, l8, l9, some (.int x)] [.int x, v0] m Q := A_iload hB_X12_begin dX12_begin_270 rfl
theorem dX12_begin_272 : decode cX12_begin 272 = .ok (.aload_n 0, 1) := by decide +kernel
theorem tX12_begin_272 {d : Nat} {l1 l2 l3 l4 l5 l6 l7 l8 l9 l10 : Option Value} {v0 v1 : Value} {x : Nat} {m : jmM} {Q : Option Value → jmM → Prop} : AW d 231 272 [some (.ref x), l1, l2, l3, l4, l5, l6, l7, l8, l9, l10] [v0, v1] m Q ↔ AW d 231 273 [some (.ref x), l1, l2, l3, l4, l5, l6, l7, l8, l9, l10] [.ref x, v0, v1] m Q := A_aload_n hB_X12_begin dX12_begin_272 rfl
theorem dX12_begin_273 : decode cX12_begin 273 = .ok (.getfield 45, 3) := by decide +kernel
theorem tX12_begin_273 {d : Nat} {l0 l1 l2 l3 l4 l5 l6 l7 l8 l9 l10 : Option Value} {v1 v2 : Value} {a : Nat} {m : jmM} {Q : Option Value → jmM → Prop} : AW d 231 273 [l0, l1, l2, l3, l4, l5, l6, l7, l8, l9, l10] [.ref a, v1, v2] m Q ↔ (mS m a).1 = 12 ∧ AW d 231 276 [l0, l1, l2, l3, l4, l5, l6, l7, l8, l9, l10] [va_rf (mR m a 23), v1, v2] m Q := A_getfield (f := fun m a => va_rf (mR m a 23)) hB_X12_begin dX12_begin_273 hO_X12_begin fF_12_45 rfl
theorem dX12_begin_276 : decode cX12_begin 276 = .ok (.iload 10, 2) := by decide +kernel
theorem tX12_begin_276 {d : Nat} {l0 l1 l2 l3 l4 l5 l6 l7 l8 l9 : Option Value} {v0 v1 v2 : Value} {x : Int32} {m : jmM} {Q : Option Value → jmM → Prop} : AW d 231 276 [l0, l1, l2, l3, l4, l5, l6, l7, l8, l9, some (.int x)] [v0, v1, v2] m Q ↔ AW d 231 278 [l0, l1, l2, l3, l4, l5, l6, l7, l8, l9, some (.int x)] [.int x, v0, v1, v2] m Q := A_iload hB_X12_begin dX12_begin_276 rfl
theorem dX12_begin_278 : decode cX12_begin 278 = .ok (.iaload, 1) := by decide +kernel
theorem tX12_begin_278 {d : Nat} {l0 l1 l2 l3 l4 l5 l6 l7 l8 l9 l10 : Option Value} {v2 v3 : Value} {i : Int32} {a : Nat} {m : jmM} {Q : Option Value → jmM → Prop} : AW d 231 278 [l0, l1, l2, l3, l4, l5, l6, l7, l8, l9, l10] [.int i, .ref a, v2, v3] m Q ↔ (((mS m a).1 = 20 ∨ a = jScr) ∧ jIx i (mS m a).2) ∧ AW d 231 279 [l0, l1, l2, l3, l4, l5, l6, l7, l8, l9, l10] [.int (mI m a (jx i)), v2, v3] m Q := A_iaload hB_X12_begin dX12_begin_278
theorem dX12_begin_279 : decode cX12_begin 279 = .ok (.iastore, 1) := by decide +kernel
theorem tX12_begin_279 {d : Nat} {l0 l1 l2 l3 l4 l5 l6 l7 l8 l9 l10 : Option Value} {x i : Int32} {a : Nat} {m : jmM} {Q : Option Value → jmM → Prop} : AW d 231 279 [l0, l1, l2, l3, l4, l5, l6, l7, l8, l9, l10] [.int x, .int i, .ref a] m Q ↔ ((mS m a).1 = 20 ∧ jIx i (mS m a).2) ∧ AW d 231 280 [l0, l1, l2, l3, l4, l5, l6, l7, l8, l9, l10] [] (cI m a (jup (mI m a) (jx i) x)) Q := A_iastore hB_X12_begin dX12_begin_279
theorem dX12_begin_280 : decode cX12_begin 280 = .ok (.aload_n 0, 1) := by decide +kernel
theorem tX12_begin_280 {d : Nat} {l1 l2 l3 l4 l5 l6 l7 l8 l9 l10 : Option Value} {x : Nat} {m : jmM} {Q : Option Value → jmM → Prop} : AW d 231 280 [some (.ref x), l1, l2, l3, l4, l5, l6, l7, l8, l9, l10] [] m Q ↔ AW d 231 281 [some (.ref x), l1, l2, l3, l4, l5, l6, l7, l8, l9, l10] [.ref x] m Q := A_aload_n hB_X12_begin dX12_begin_280 rfl
theorem dX12_begin_281 : decode cX12_begin 281 = .ok (.getfield 60, 3) := by decide +kernel
theorem tX12_begin_281 {d : Nat} {l0 l1 l2 l3 l4 l5 l6 l7 l8 l9 l10 : Option Value} {a : Nat} {m : jmM} {Q : Option Value → jmM → Prop} : AW d 231 281 [l0, l1, l2, l3, l4, l5, l6, l7, l8, l9, l10] [.ref a] m Q ↔ (mS m a).1 = 12 ∧ AW d 231 284 [l0, l1, l2, l3, l4, l5, l6, l7, l8, l9, l10] [va_rf (mR m a 28)] m Q := A_getfield (f := fun m a => va_rf (mR m a 28)) hB_X12_begin dX12_begin_281 hO_X12_begin fF_12_60 rfl
theorem dX12_begin_284 : decode cX12_begin 284 = .ok (.iload 10, 2) := by decide +kernel
theorem tX12_begin_284 {d : Nat} {l0 l1 l2 l3 l4 l5 l6 l7 l8 l9 : Option Value} {v0 : Value} {x : Int32} {m : jmM} {Q : Option Value → jmM → Prop} : AW d 231 284 [l0, l1, l2, l3, l4, l5, l6, l7, l8, l9, some (.int x)] [v0] m Q ↔ AW d 231 286 [l0, l1, l2, l3, l4, l5, l6, l7, l8, l9, some (.int x)] [.int x, v0] m Q := A_iload hB_X12_begin dX12_begin_284 rfl
theorem dX12_begin_286 : decode cX12_begin 286 = .ok (.aload_n 0, 1) := by decide +kernel
theorem tX12_begin_286 {d : Nat} {l1 l2 l3 l4 l5 l6 l7 l8 l9 l10 : Option Value} {v0 v1 : Value} {x : Nat} {m : jmM} {Q : Option Value → jmM → Prop} : AW d 231 286 [some (.ref x), l1, l2, l3, l4, l5, l6, l7, l8, l9, l10] [v0, v1] m Q ↔ AW d 231 287 [some (.ref x), l1, l2, l3, l4, l5, l6, l7, l8, l9, l10] [.ref x, v0, v1] m Q := A_aload_n hB_X12_begin dX12_begin_286 rfl
theorem dX12_begin_287 : decode cX12_begin 287 = .ok (.getfield 48, 3) := by decide +kernel
theorem tX12_begin_287 {d : Nat} {l0 l1 l2 l3 l4 l5 l6 l7 l8 l9 l10 : Option Value} {v1 v2 : Value} {a : Nat} {m : jmM} {Q : Option Value → jmM → Prop} : AW d 231 287 [l0, l1, l2, l3, l4, l5, l6, l7, l8, l9, l10] [.ref a, v1, v2] m Q ↔ (mS m a).1 = 12 ∧ AW d 231 290 [l0, l1, l2, l3, l4, l5, l6, l7, l8, l9, l10] [va_rf (mR m a 24), v1, v2] m Q := A_getfield (f := fun m a => va_rf (mR m a 24)) hB_X12_begin dX12_begin_287 hO_X12_begin fF_12_48 rfl
theorem dX12_begin_290 : decode cX12_begin 290 = .ok (.iload 10, 2) := by decide +kernel
theorem tX12_begin_290 {d : Nat} {l0 l1 l2 l3 l4 l5 l6 l7 l8 l9 : Option Value} {v0 v1 v2 : Value} {x : Int32} {m : jmM} {Q : Option Value → jmM → Prop} : AW d 231 290 [l0, l1, l2, l3, l4, l5, l6, l7, l8, l9, some (.int x)] [v0, v1, v2] m Q ↔ AW d 231 292 [l0, l1, l2, l3, l4, l5, l6, l7, l8, l9, some (.int x)] [.int x, v0, v1, v2] m Q := A_iload hB_X12_begin dX12_begin_290 rfl
theorem dX12_begin_292 : decode cX12_begin 292 = .ok (.iaload, 1) := by decide +kernel
theorem tX12_begin_292 {d : Nat} {l0 l1 l2 l3 l4 l5 l6 l7 l8 l9 l10 : Option Value} {v2 v3 : Value} {i : Int32} {a : Nat} {m : jmM} {Q : Option Value → jmM → Prop} : AW d 231 292 [l0, l1, l2, l3, l4, l5, l6, l7, l8, l9, l10] [.int i, .ref a, v2, v3] m Q ↔ (((mS m a).1 = 20 ∨ a = jScr) ∧ jIx i (mS m a).2) ∧ AW d 231 293 [l0, l1, l2, l3, l4, l5, l6, l7, l8, l9, l10] [.int (mI m a (jx i)), v2, v3] m Q := A_iaload hB_X12_begin dX12_begin_292
theorem dX12_begin_293 : decode cX12_begin 293 = .ok (.iastore, 1) := by decide +kernel
theorem tX12_begin_293 {d : Nat} {l0 l1 l2 l3 l4 l5 l6 l7 l8 l9 l10 : Option Value} {x i : Int32} {a : Nat} {m : jmM} {Q : Option Value → jmM → Prop} : AW d 231 293 [l0, l1, l2, l3, l4, l5, l6, l7, l8, l9, l10] [.int x, .int i, .ref a] m Q ↔ ((mS m a).1 = 20 ∧ jIx i (mS m a).2) ∧ AW d 231 294 [l0, l1, l2, l3, l4, l5, l6, l7, l8, l9, l10] [] (cI m a (jup (mI m a) (jx i) x)) Q := A_iastore hB_X12_begin dX12_begin_293
theorem dX12_begin_294 : decode cX12_begin 294 = .ok (.aload_n 0, 1) := by decide +kernel
theorem tX12_begin_294 {d : Nat} {l1 l2 l3 l4 l5 l6 l7 l8 l9 l10 : Option Value} {x : Nat} {m : jmM} {Q : Option Value → jmM → Prop} : AW d 231 294 [some (.ref x), l1, l2, l3, l4, l5, l6, l7, l8, l9, l10] [] m Q ↔ AW d 231 295 [some (.ref x), l1, l2, l3, l4, l5, l6, l7, l8, l9, l10] [.ref x] m Q := A_aload_n hB_X12_begin dX12_begin_294 rfl
theorem dX12_begin_295 : decode cX12_begin 295 = .ok (.getfield 54, 3) := by decide +kernel
theorem tX12_begin_295 {d : Nat} {l0 l1 l2 l3 l4 l5 l6 l7 l8 l9 l10 : Option Value} {a : Nat} {m : jmM} {Q : Option Value → jmM → Prop} : AW d 231 295 [l0, l1, l2, l3, l4, l5, l6, l7, l8, l9, l10] [.ref a] m Q ↔ (mS m a).1 = 12 ∧ AW d 231 298 [l0, l1, l2, l3, l4, l5, l6, l7, l8, l9, l10] [va_rf (mR m a 26)] m Q := A_getfield (f := fun m a => va_rf (mR m a 26)) hB_X12_begin dX12_begin_295 hO_X12_begin fF_12_54 rfl
theorem dX12_begin_298 : decode cX12_begin 298 = .ok (.iload 10, 2) := by decide +kernel
theorem tX12_begin_298 {d : Nat} {l0 l1 l2 l3 l4 l5 l6 l7 l8 l9 : Option Value} {v0 : Value} {x : Int32} {m : jmM} {Q : Option Value → jmM → Prop} : AW d 231 298 [l0, l1, l2, l3, l4, l5, l6, l7, l8, l9, some (.int x)] [v0] m Q ↔ AW d 231 300 [l0, l1, l2, l3, l4, l5, l6, l7, l8, l9, some (.int x)] [.int x, v0] m Q := A_iload hB_X12_begin dX12_begin_298 rfl
theorem dX12_begin_300 : decode cX12_begin 300 = .ok (.aload_n 0, 1) := by decide +kernel
theorem tX12_begin_300 {d : Nat} {l1 l2 l3 l4 l5 l6 l7 l8 l9 l10 : Option Value} {v0 v1 : Value} {x : Nat} {m : jmM} {Q : Option Value → jmM → Prop} : AW d 231 300 [some (.ref x), l1, l2, l3, l4, l5, l6, l7, l8, l9, l10] [v0, v1] m Q ↔ AW d 231 301 [some (.ref x), l1, l2, l3, l4, l5, l6, l7, l8, l9, l10] [.ref x, v0, v1] m Q := A_aload_n hB_X12_begin dX12_begin_300 rfl
theorem dX12_begin_301 : decode cX12_begin 301 = .ok (.getfield 45, 3) := by decide +kernel
theorem tX12_begin_301 {d : Nat} {l0 l1 l2 l3 l4 l5 l6 l7 l8 l9 l10 : Option Value} {v1 v2 : Value} {a : Nat} {m : jmM} {Q : Option Value → jmM → Prop} : AW d 231 301 [l0, l1, l2, l3, l4, l5, l6, l7, l8, l9, l10] [.ref a, v1, v2] m Q ↔ (mS m a).1 = 12 ∧ AW d 231 304 [l0, l1, l2, l3, l4, l5, l6, l7, l8, l9, l10] [va_rf (mR m a 23), v1, v2] m Q := A_getfield (f := fun m a => va_rf (mR m a 23)) hB_X12_begin dX12_begin_301 hO_X12_begin fF_12_45 rfl
theorem dX12_begin_304 : decode cX12_begin 304 = .ok (.iload 10, 2) := by decide +kernel
theorem tX12_begin_304 {d : Nat} {l0 l1 l2 l3 l4 l5 l6 l7 l8 l9 : Option Value} {v0 v1 v2 : Value} {x : Int32} {m : jmM} {Q : Option Value → jmM → Prop} : AW d 231 304 [l0, l1, l2, l3, l4, l5, l6, l7, l8, l9, some (.int x)] [v0, v1, v2] m Q ↔ AW d 231 306 [l0, l1, l2, l3, l4, l5, l6, l7, l8, l9, some (.int x)] [.int x, v0, v1, v2] m Q := A_iload hB_X12_begin dX12_begin_304 rfl
theorem dX12_begin_306 : decode cX12_begin 306 = .ok (.iaload, 1) := by decide +kernel
theorem tX12_begin_306 {d : Nat} {l0 l1 l2 l3 l4 l5 l6 l7 l8 l9 l10 : Option Value} {v2 v3 : Value} {i : Int32} {a : Nat} {m : jmM} {Q : Option Value → jmM → Prop} : AW d 231 306 [l0, l1, l2, l3, l4, l5, l6, l7, l8, l9, l10] [.int i, .ref a, v2, v3] m Q ↔ (((mS m a).1 = 20 ∨ a = jScr) ∧ jIx i (mS m a).2) ∧ AW d 231 307 [l0, l1, l2, l3, l4, l5, l6, l7, l8, l9, l10] [.int (mI m a (jx i)), v2, v3] m Q := A_iaload hB_X12_begin dX12_begin_306
theorem dX12_begin_307 : decode cX12_begin 307 = .ok (.i2l, 1) := by decide +kernel
theorem tX12_begin_307 {d : Nat} {l0 l1 l2 l3 l4 l5 l6 l7 l8 l9 l10 : Option Value} {v1 v2 : Value} {x : Int32} {m : jmM} {Q : Option Value → jmM → Prop} : AW d 231 307 [l0, l1, l2, l3, l4, l5, l6, l7, l8, l9, l10] [.int x, v1, v2] m Q ↔ AW d 231 308 [l0, l1, l2, l3, l4, l5, l6, l7, l8, l9, l10] [.long x.toInt64, v1, v2] m Q := A_i2l hB_X12_begin dX12_begin_307
theorem dX12_begin_308 : decode cX12_begin 308 = .ok (.lastore, 1) := by decide +kernel
theorem tX12_begin_308 {d : Nat} {l0 l1 l2 l3 l4 l5 l6 l7 l8 l9 l10 : Option Value} {x : Int64} {i : Int32} {a : Nat} {m : jmM} {Q : Option Value → jmM → Prop} : AW d 231 308 [l0, l1, l2, l3, l4, l5, l6, l7, l8, l9, l10] [.long x, .int i, .ref a] m Q ↔ ((mS m a).1 = 21 ∧ jIx i (mS m a).2) ∧ AW d 231 309 [l0, l1, l2, l3, l4, l5, l6, l7, l8, l9, l10] [] (cL m a (jup (mL m a) (jx i) x)) Q := A_lastore hB_X12_begin dX12_begin_308
theorem dX12_begin_309 : decode cX12_begin 309 = .ok (.iinc 10 1, 3) := by decide +kernel
theorem tX12_begin_309 {d : Nat} {l0 l1 l2 l3 l4 l5 l6 l7 l8 l9 : Option Value} {x : Int32} {m : jmM} {Q : Option Value → jmM → Prop} : AW d 231 309 [l0, l1, l2, l3, l4, l5, l6, l7, l8, l9, some (.int x)] [] m Q ↔ AW d 231 312 [l0, l1, l2, l3, l4, l5, l6, l7, l8, jc1 l9, some (.int (x + 1))] [] m Q := A_iinc hB_X12_begin dX12_begin_309 rfl (Nat.le_of_ble_eq_true rfl) (v := 1) (by decide) rfl
theorem dX12_begin_312 : decode cX12_begin 312 = .ok (.goto (-53), 3) := by decide +kernel
theorem tX12_begin_312 {d : Nat} {l0 l1 l2 l3 l4 l5 l6 l7 l8 l9 l10 : Option Value} {m : jmM} {Q : Option Value → jmM → Prop} : AW d 231 312 [l0, l1, l2, l3, l4, l5, l6, l7, l8, l9, l10] [] m Q ↔ AW d 231 259 [l0, l1, l2, l3, l4, l5, l6, l7, l8, l9, l10] [] m Q := A_goto hB_X12_begin dX12_begin_312 (by decide)
theorem dX12_begin_315 : decode cX12_begin 315 = .ok (.iconst 1, 1) := by decide +kernel
theorem tX12_begin_315 {d : Nat} {l0 l1 l2 l3 l4 l5 l6 l7 l8 l9 l10 : Option Value} {m : jmM} {Q : Option Value → jmM → Prop} : AW d 231 315 [l0, l1, l2, l3, l4, l5, l6, l7, l8, l9, l10] [] m Q ↔ AW d 231 316 [l0, l1, l2, l3, l4, l5, l6, l7, l8, l9, l10] [.int 1] m Q := A_iconst hB_X12_begin dX12_begin_315 (by decide)
theorem dX12_begin_316 : decode cX12_begin 316 = .ok (.ireturn, 1) := by decide +kernel
theorem tX12_begin_316 {d : Nat} {l0 l1 l2 l3 l4 l5 l6 l7 l8 l9 l10 : Option Value} {x : Int32} {m : jmM} {Q : Option Value → jmM → Prop} : AW d 231 316 [l0, l1, l2, l3, l4, l5, l6, l7, l8, l9, l10] [.int x] m Q ↔ jBool x ∧ Q (some (.int x)) m := A_zreturn hB_X12_begin dX12_begin_316 hR_X12_begin
theorem hB_X12_minds : jB 232 = cX12_minds := rfl
theorem hO_X12_minds : jO 232 = 12 := rfl
theorem hR_X12_minds : jRt 232 = (some .boolean) := rfl
theorem nX12_minds (d : Nat) (x0 : Nat) (x1 : Int32) (m : jmM) (Q : Option Value → jmM → Prop) : CC (d + 1) 232 [.ref x0, .int x1] m Q ↔ AW d 232 0 [some (.ref x0), some (.int x1)] [] m Q := CC_body (Nat.le_of_ble_eq_true rfl)
theorem dX12_minds_0 : decode cX12_minds 0 = .ok (.aload_n 0, 1) := by decide +kernel
theorem tX12_minds_0 {d : Nat} {l1 : Option Value} {x : Nat} {m : jmM} {Q : Option Value → jmM → Prop} : AW d 232 0 [some (.ref x), l1] [] m Q ↔ AW d 232 1 [some (.ref x), l1] [.ref x] m Q := A_aload_n hB_X12_minds dX12_minds_0 rfl
theorem dX12_minds_1 : decode cX12_minds 1 = .ok (.getfield 51, 3) := by decide +kernel
theorem tX12_minds_1 {d : Nat} {l0 l1 : Option Value} {a : Nat} {m : jmM} {Q : Option Value → jmM → Prop} : AW d 232 1 [l0, l1] [.ref a] m Q ↔ (mS m a).1 = 12 ∧ AW d 232 4 [l0, l1] [va_rf (mR m a 25)] m Q := A_getfield (f := fun m a => va_rf (mR m a 25)) hB_X12_minds dX12_minds_1 hO_X12_minds fF_12_51 rfl
theorem dX12_minds_4 : decode cX12_minds 4 = .ok (.iconst 0, 1) := by decide +kernel
theorem tX12_minds_4 {d : Nat} {l0 l1 : Option Value} {v0 : Value} {m : jmM} {Q : Option Value → jmM → Prop} : AW d 232 4 [l0, l1] [v0] m Q ↔ AW d 232 5 [l0, l1] [.int 0, v0] m Q := A_iconst hB_X12_minds dX12_minds_4 (by decide)
theorem dX12_minds_5 : decode cX12_minds 5 = .ok (.iaload, 1) := by decide +kernel
theorem tX12_minds_5 {d : Nat} {l0 l1 : Option Value} {i : Int32} {a : Nat} {m : jmM} {Q : Option Value → jmM → Prop} : AW d 232 5 [l0, l1] [.int i, .ref a] m Q ↔ (((mS m a).1 = 20 ∨ a = jScr) ∧ jIx i (mS m a).2) ∧ AW d 232 6 [l0, l1] [.int (mI m a (jx i))] m Q := A_iaload hB_X12_minds dX12_minds_5
theorem dX12_minds_6 : decode cX12_minds 6 = .ok (.ifCond .eq 19, 3) := by decide +kernel
theorem tX12_minds_6 {d : Nat} {l0 l1 : Option Value} {x : Int32} {m : jmM} {Q : Option Value → jmM → Prop} : AW d 232 6 [l0, l1] [.int x] m Q ↔ if x = 0 then AW d 232 25 [l0, l1] [] m Q else AW d 232 9 [l0, l1] [] m Q := A_if_eq hB_X12_minds dX12_minds_6 (by decide)
theorem dX12_minds_9 : decode cX12_minds 9 = .ok (.iload_n 1, 1) := by decide +kernel
theorem tX12_minds_9 {d : Nat} {l0 : Option Value} {x : Int32} {m : jmM} {Q : Option Value → jmM → Prop} : AW d 232 9 [l0, some (.int x)] [] m Q ↔ AW d 232 10 [l0, some (.int x)] [.int x] m Q := A_iload_n hB_X12_minds dX12_minds_9 rfl
theorem dX12_minds_10 : decode cX12_minds 10 = .ok (.i2l, 1) := by decide +kernel
theorem tX12_minds_10 {d : Nat} {l0 l1 : Option Value} {x : Int32} {m : jmM} {Q : Option Value → jmM → Prop} : AW d 232 10 [l0, l1] [.int x] m Q ↔ AW d 232 11 [l0, l1] [.long x.toInt64] m Q := A_i2l hB_X12_minds dX12_minds_10
theorem dX12_minds_11 : decode cX12_minds 11 = .ok (.lconst 0, 1) := by decide +kernel
theorem tX12_minds_11 {d : Nat} {l0 l1 : Option Value} {v0 : Value} {m : jmM} {Q : Option Value → jmM → Prop} : AW d 232 11 [l0, l1] [v0] m Q ↔ AW d 232 12 [l0, l1] [.long 0, v0] m Q := A_lconst hB_X12_minds dX12_minds_11 (by decide)
theorem dX12_minds_12 : decode cX12_minds 12 = .ok (.aload_n 0, 1) := by decide +kernel
theorem tX12_minds_12 {d : Nat} {l1 : Option Value} {v0 v1 : Value} {x : Nat} {m : jmM} {Q : Option Value → jmM → Prop} : AW d 232 12 [some (.ref x), l1] [v0, v1] m Q ↔ AW d 232 13 [some (.ref x), l1] [.ref x, v0, v1] m Q := A_aload_n hB_X12_minds dX12_minds_12 rfl
theorem dX12_minds_13 : decode cX12_minds 13 = .ok (.getfield 257, 3) := by decide +kernel
theorem tX12_minds_13 {d : Nat} {l0 l1 : Option Value} {v1 v2 : Value} {a : Nat} {m : jmM} {Q : Option Value → jmM → Prop} : AW d 232 13 [l0, l1] [.ref a, v1, v2] m Q ↔ (mS m a).1 = 12 ∧ AW d 232 16 [l0, l1] [.int (mI m a 10), v1, v2] m Q := A_getfield (f := fun m a => .int (mI m a 10)) hB_X12_minds dX12_minds_13 hO_X12_minds fF_12_257 rfl
theorem dX12_minds_16 : decode cX12_minds 16 = .ok (.iconst 1, 1) := by decide +kernel
theorem tX12_minds_16 {d : Nat} {l0 l1 : Option Value} {v0 v1 v2 : Value} {m : jmM} {Q : Option Value → jmM → Prop} : AW d 232 16 [l0, l1] [v0, v1, v2] m Q ↔ AW d 232 17 [l0, l1] [.int 1, v0, v1, v2] m Q := A_iconst hB_X12_minds dX12_minds_16 (by decide)
theorem dX12_minds_17 : decode cX12_minds 17 = .ok (.isub, 1) := by decide +kernel
theorem tX12_minds_17 {d : Nat} {l0 l1 : Option Value} {v2 v3 : Value} {x y : Int32} {m : jmM} {Q : Option Value → jmM → Prop} : AW d 232 17 [l0, l1] [.int y, .int x, v2, v3] m Q ↔ AW d 232 18 [l0, l1] [.int (x - y), v2, v3] m Q := A_isub hB_X12_minds dX12_minds_17
theorem dX12_minds_18 : decode cX12_minds 18 = .ok (.i2l, 1) := by decide +kernel
theorem tX12_minds_18 {d : Nat} {l0 l1 : Option Value} {v1 v2 : Value} {x : Int32} {m : jmM} {Q : Option Value → jmM → Prop} : AW d 232 18 [l0, l1] [.int x, v1, v2] m Q ↔ AW d 232 19 [l0, l1] [.long x.toInt64, v1, v2] m Q := A_i2l hB_X12_minds dX12_minds_18
theorem dX12_minds_19 : decode cX12_minds 19 = .ok (.invokestatic 281, 3) := by decide +kernel
theorem tX12_minds_19 {d : Nat} {l0 l1 : Option Value} {y0 y1 y2 : Value} {m : jmM} {Q : Option Value → jmM → Prop} : AW d 232 19 [l0, l1] [y0, y1, y2] m Q ↔ CC d 189 [y2, y1, y0] m (jK d 232 22 [l0, l1] [] Q) := A_callS0 hB_X12_minds dX12_minds_19 hO_X12_minds fS_12_281 ⟨Nat.le_of_ble_eq_true rfl, Nat.le_of_ble_eq_true rfl⟩ rfl rfl
theorem dX12_minds_22 : decode cX12_minds 22 = .ok (.ifCond .ne 5, 3) := by decide +kernel
theorem tX12_minds_22 {d : Nat} {l0 l1 : Option Value} {x : Int32} {m : jmM} {Q : Option Value → jmM → Prop} : AW d 232 22 [l0, l1] [.int x] m Q ↔ if x = 0 then AW d 232 25 [l0, l1] [] m Q else AW d 232 27 [l0, l1] [] m Q := A_if_ne hB_X12_minds dX12_minds_22 (by decide)
theorem dX12_minds_25 : decode cX12_minds 25 = .ok (.iconst 0, 1) := by decide +kernel
theorem tX12_minds_25 {d : Nat} {l0 l1 : Option Value} {m : jmM} {Q : Option Value → jmM → Prop} : AW d 232 25 [l0, l1] [] m Q ↔ AW d 232 26 [l0, l1] [.int 0] m Q := A_iconst hB_X12_minds dX12_minds_25 (by decide)
theorem dX12_minds_26 : decode cX12_minds 26 = .ok (.ireturn, 1) := by decide +kernel
theorem tX12_minds_26 {d : Nat} {l0 l1 : Option Value} {x : Int32} {m : jmM} {Q : Option Value → jmM → Prop} : AW d 232 26 [l0, l1] [.int x] m Q ↔ jBool x ∧ Q (some (.int x)) m := A_zreturn hB_X12_minds dX12_minds_26 hR_X12_minds
theorem dX12_minds_27 : decode cX12_minds 27 = .ok (.aload_n 0, 1) := by decide +kernel
theorem tX12_minds_27 {d : Nat} {l1 : Option Value} {x : Nat} {m : jmM} {Q : Option Value → jmM → Prop} : AW d 232 27 [some (.ref x), l1] [] m Q ↔ AW d 232 28 [some (.ref x), l1] [.ref x] m Q := A_aload_n hB_X12_minds dX12_minds_27 rfl
theorem dX12_minds_28 : decode cX12_minds 28 = .ok (.getfield 51, 3) := by decide +kernel
theorem tX12_minds_28 {d : Nat} {l0 l1 : Option Value} {a : Nat} {m : jmM} {Q : Option Value → jmM → Prop} : AW d 232 28 [l0, l1] [.ref a] m Q ↔ (mS m a).1 = 12 ∧ AW d 232 31 [l0, l1] [va_rf (mR m a 25)] m Q := A_getfield (f := fun m a => va_rf (mR m a 25)) hB_X12_minds dX12_minds_28 hO_X12_minds fF_12_51 rfl
theorem dX12_minds_31 : decode cX12_minds 31 = .ok (.iconst 2, 1) := by decide +kernel
theorem tX12_minds_31 {d : Nat} {l0 l1 : Option Value} {v0 : Value} {m : jmM} {Q : Option Value → jmM → Prop} : AW d 232 31 [l0, l1] [v0] m Q ↔ AW d 232 32 [l0, l1] [.int 2, v0] m Q := A_iconst hB_X12_minds dX12_minds_31 (by decide)
theorem dX12_minds_32 : decode cX12_minds 32 = .ok (.iload_n 1, 1) := by decide +kernel
theorem tX12_minds_32 {d : Nat} {l0 : Option Value} {v0 v1 : Value} {x : Int32} {m : jmM} {Q : Option Value → jmM → Prop} : AW d 232 32 [l0, some (.int x)] [v0, v1] m Q ↔ AW d 232 33 [l0, some (.int x)] [.int x, v0, v1] m Q := A_iload_n hB_X12_minds dX12_minds_32 rfl
theorem dX12_minds_33 : decode cX12_minds 33 = .ok (.iastore, 1) := by decide +kernel
theorem tX12_minds_33 {d : Nat} {l0 l1 : Option Value} {x i : Int32} {a : Nat} {m : jmM} {Q : Option Value → jmM → Prop} : AW d 232 33 [l0, l1] [.int x, .int i, .ref a] m Q ↔ ((mS m a).1 = 20 ∧ jIx i (mS m a).2) ∧ AW d 232 34 [l0, l1] [] (cI m a (jup (mI m a) (jx i) x)) Q := A_iastore hB_X12_minds dX12_minds_33
theorem dX12_minds_34 : decode cX12_minds 34 = .ok (.iconst 1, 1) := by decide +kernel
theorem tX12_minds_34 {d : Nat} {l0 l1 : Option Value} {m : jmM} {Q : Option Value → jmM → Prop} : AW d 232 34 [l0, l1] [] m Q ↔ AW d 232 35 [l0, l1] [.int 1] m Q := A_iconst hB_X12_minds dX12_minds_34 (by decide)
theorem dX12_minds_35 : decode cX12_minds 35 = .ok (.ireturn, 1) := by decide +kernel
theorem tX12_minds_35 {d : Nat} {l0 l1 : Option Value} {x : Int32} {m : jmM} {Q : Option Value → jmM → Prop} : AW d 232 35 [l0, l1] [.int x] m Q ↔ jBool x ∧ Q (some (.int x)) m := A_zreturn hB_X12_minds dX12_minds_35 hR_X12_minds
theorem hB_X12_wideAt : jB 233 = cX12_wideAt := rfl
theorem hO_X12_wideAt : jO 233 = 12 := rfl
theorem hR_X12_wideAt : jRt 233 = (some .int) := rfl
theorem nX12_wideAt (d : Nat) (x0 : Nat) (x1 : Int32) (m : jmM) (Q : Option Value → jmM → Prop) : CC (d + 1) 233 [.ref x0, .int x1] m Q ↔ AW d 233 0 [some (.ref x0), some (.int x1)] [] m Q := CC_body (Nat.le_of_ble_eq_true rfl)
theorem dX12_wideAt_0 : decode cX12_wideAt 0 = .ok (.iload_n 1, 1) := by decide +kernel
theorem tX12_wideAt_0 {d : Nat} {l0 : Option Value} {x : Int32} {m : jmM} {Q : Option Value → jmM → Prop} : AW d 233 0 [l0, some (.int x)] [] m Q ↔ AW d 233 1 [l0, some (.int x)] [.int x] m Q := A_iload_n hB_X12_wideAt dX12_wideAt_0 rfl
theorem dX12_wideAt_1 : decode cX12_wideAt 1 = .ok (.ifCond .ge 13, 3) := by decide +kernel
theorem tX12_wideAt_1 {d : Nat} {l0 l1 : Option Value} {x : Int32} {m : jmM} {Q : Option Value → jmM → Prop} : AW d 233 1 [l0, l1] [.int x] m Q ↔ if 0 ≤ x then AW d 233 14 [l0, l1] [] m Q else AW d 233 4 [l0, l1] [] m Q := A_if_ge hB_X12_wideAt dX12_wideAt_1 (by decide)
theorem dX12_wideAt_4 : decode cX12_wideAt 4 = .ok (.aload_n 0, 1) := by decide +kernel
theorem tX12_wideAt_4 {d : Nat} {l1 : Option Value} {x : Nat} {m : jmM} {Q : Option Value → jmM → Prop} : AW d 233 4 [some (.ref x), l1] [] m Q ↔ AW d 233 5 [some (.ref x), l1] [.ref x] m Q := A_aload_n hB_X12_wideAt dX12_wideAt_4 rfl
theorem dX12_wideAt_5 : decode cX12_wideAt 5 = .ok (.getfield 51, 3) := by decide +kernel
theorem tX12_wideAt_5 {d : Nat} {l0 l1 : Option Value} {a : Nat} {m : jmM} {Q : Option Value → jmM → Prop} : AW d 233 5 [l0, l1] [.ref a] m Q ↔ (mS m a).1 = 12 ∧ AW d 233 8 [l0, l1] [va_rf (mR m a 25)] m Q := A_getfield (f := fun m a => va_rf (mR m a 25)) hB_X12_wideAt dX12_wideAt_5 hO_X12_wideAt fF_12_51 rfl
theorem dX12_wideAt_8 : decode cX12_wideAt 8 = .ok (.bipush 6, 2) := by decide +kernel
theorem tX12_wideAt_8 {d : Nat} {l0 l1 : Option Value} {v0 : Value} {m : jmM} {Q : Option Value → jmM → Prop} : AW d 233 8 [l0, l1] [v0] m Q ↔ AW d 233 10 [l0, l1] [.int 6, v0] m Q := A_bipush hB_X12_wideAt dX12_wideAt_8 rfl
theorem dX12_wideAt_10 : decode cX12_wideAt 10 = .ok (.iaload, 1) := by decide +kernel
theorem tX12_wideAt_10 {d : Nat} {l0 l1 : Option Value} {i : Int32} {a : Nat} {m : jmM} {Q : Option Value → jmM → Prop} : AW d 233 10 [l0, l1] [.int i, .ref a] m Q ↔ (((mS m a).1 = 20 ∨ a = jScr) ∧ jIx i (mS m a).2) ∧ AW d 233 11 [l0, l1] [.int (mI m a (jx i))] m Q := A_iaload hB_X12_wideAt dX12_wideAt_10
theorem dX12_wideAt_11 : decode cX12_wideAt 11 = .ok (.goto 9, 3) := by decide +kernel
theorem tX12_wideAt_11 {d : Nat} {l0 l1 : Option Value} {v0 : Value} {m : jmM} {Q : Option Value → jmM → Prop} : AW d 233 11 [l0, l1] [v0] m Q ↔ AW d 233 20 [l0, l1] [v0] m Q := A_goto hB_X12_wideAt dX12_wideAt_11 (by decide)
theorem dX12_wideAt_14 : decode cX12_wideAt 14 = .ok (.aload_n 0, 1) := by decide +kernel
theorem tX12_wideAt_14 {d : Nat} {l1 : Option Value} {x : Nat} {m : jmM} {Q : Option Value → jmM → Prop} : AW d 233 14 [some (.ref x), l1] [] m Q ↔ AW d 233 15 [some (.ref x), l1] [.ref x] m Q := A_aload_n hB_X12_wideAt dX12_wideAt_14 rfl
theorem dX12_wideAt_15 : decode cX12_wideAt 15 = .ok (.iload_n 1, 1) := by decide +kernel
theorem tX12_wideAt_15 {d : Nat} {l0 : Option Value} {v0 : Value} {x : Int32} {m : jmM} {Q : Option Value → jmM → Prop} : AW d 233 15 [l0, some (.int x)] [v0] m Q ↔ AW d 233 16 [l0, some (.int x)] [.int x, v0] m Q := A_iload_n hB_X12_wideAt dX12_wideAt_15 rfl
theorem dX12_wideAt_16 : decode cX12_wideAt 16 = .ok (.iconst 0, 1) := by decide +kernel
theorem tX12_wideAt_16 {d : Nat} {l0 l1 : Option Value} {v0 v1 : Value} {m : jmM} {Q : Option Value → jmM → Prop} : AW d 233 16 [l0, l1] [v0, v1] m Q ↔ AW d 233 17 [l0, l1] [.int 0, v0, v1] m Q := A_iconst hB_X12_wideAt dX12_wideAt_16 (by decide)
theorem dX12_wideAt_17 : decode cX12_wideAt 17 = .ok (.invokevirtual 297, 3) := by decide +kernel
theorem tX12_wideAt_17 {d : Nat} {l0 l1 : Option Value} {y0 y1 : Value} {a : Nat} {m : jmM} {Q : Option Value → jmM → Prop} : AW d 233 17 [l0, l1] [y0, y1, .ref a] m Q ↔ (mS m a).1 = 12 ∧ CC d 229 [.ref a, y1, y0] m (jK d 233 20 [l0, l1] [] Q) := A_callV hB_X12_wideAt dX12_wideAt_17 hO_X12_wideAt fS_12_297 ⟨Nat.le_of_ble_eq_true rfl, Nat.le_of_ble_eq_true rfl⟩ rfl rfl rfl
theorem dX12_wideAt_20 : decode cX12_wideAt 20 = .ok (.ireturn, 1) := by decide +kernel
theorem tX12_wideAt_20 {d : Nat} {l0 l1 : Option Value} {x : Int32} {m : jmM} {Q : Option Value → jmM → Prop} : AW d 233 20 [l0, l1] [.int x] m Q ↔ Q (some (.int x)) m := A_ireturn hB_X12_wideAt dX12_wideAt_20 hR_X12_wideAt
theorem hB_X12_goes : jB 234 = cX12_goes := rfl
theorem hO_X12_goes : jO 234 = 12 := rfl
theorem hR_X12_goes : jRt 234 = (some .long) := rfl
theorem nX12_goes (d : Nat) (x0 : Int64) (x1 : Int64) (x2 : Int64) (x3 : Int64) (m : jmM) (Q : Option Value → jmM → Prop) : CC (d + 1) 234 [.long x0, .long x1, .long x2, .long x3] m Q ↔ AW d 234 0 [some (.long x0), none, some (.long x1), none, some (.long x2), none, some (.long x3), none, none, none] [] m Q := CC_body (Nat.le_of_ble_eq_true rfl)
theorem dX12_goes_0 : decode cX12_goes 0 = .ok (.lload_n 0, 1) := by decide +kernel
theorem tX12_goes_0 {d : Nat} {l1 l2 l3 l4 l5 l6 l7 l8 l9 : Option Value} {x : Int64} {m : jmM} {Q : Option Value → jmM → Prop} : AW d 234 0 [some (.long x), l1, l2, l3, l4, l5, l6, l7, l8, l9] [] m Q ↔ AW d 234 1 [some (.long x), l1, l2, l3, l4, l5, l6, l7, l8, l9] [.long x] m Q := A_lload_n hB_X12_goes dX12_goes_0 rfl
theorem dX12_goes_1 : decode cX12_goes 1 = .ok (.lload_n 2, 1) := by decide +kernel
theorem tX12_goes_1 {d : Nat} {l0 l1 l3 l4 l5 l6 l7 l8 l9 : Option Value} {v0 : Value} {x : Int64} {m : jmM} {Q : Option Value → jmM → Prop} : AW d 234 1 [l0, l1, some (.long x), l3, l4, l5, l6, l7, l8, l9] [v0] m Q ↔ AW d 234 2 [l0, l1, some (.long x), l3, l4, l5, l6, l7, l8, l9] [.long x, v0] m Q := A_lload_n hB_X12_goes dX12_goes_1 rfl
theorem dX12_goes_2 : decode cX12_goes 2 = .ok (.lmul, 1) := by decide +kernel
theorem tX12_goes_2 {d : Nat} {l0 l1 l2 l3 l4 l5 l6 l7 l8 l9 : Option Value} {x y : Int64} {m : jmM} {Q : Option Value → jmM → Prop} : AW d 234 2 [l0, l1, l2, l3, l4, l5, l6, l7, l8, l9] [.long y, .long x] m Q ↔ AW d 234 3 [l0, l1, l2, l3, l4, l5, l6, l7, l8, l9] [.long (x * y)] m Q := A_lmul hB_X12_goes dX12_goes_2
theorem dX12_goes_3 : decode cX12_goes 3 = .ok (.lload 4, 2) := by decide +kernel
theorem tX12_goes_3 {d : Nat} {l0 l1 l2 l3 l5 l6 l7 l8 l9 : Option Value} {v0 : Value} {x : Int64} {m : jmM} {Q : Option Value → jmM → Prop} : AW d 234 3 [l0, l1, l2, l3, some (.long x), l5, l6, l7, l8, l9] [v0] m Q ↔ AW d 234 5 [l0, l1, l2, l3, some (.long x), l5, l6, l7, l8, l9] [.long x, v0] m Q := A_lload hB_X12_goes dX12_goes_3 rfl
theorem dX12_goes_5 : decode cX12_goes 5 = .ok (.ldiv, 1) := by decide +kernel
theorem tX12_goes_5 {d : Nat} {l0 l1 l2 l3 l4 l5 l6 l7 l8 l9 : Option Value} {x y : Int64} {m : jmM} {Q : Option Value → jmM → Prop} : AW d 234 5 [l0, l1, l2, l3, l4, l5, l6, l7, l8, l9] [.long y, .long x] m Q ↔ ¬ y = 0 ∧ AW d 234 6 [l0, l1, l2, l3, l4, l5, l6, l7, l8, l9] [.long (x / y)] m Q := A_ldiv hB_X12_goes dX12_goes_5
theorem dX12_goes_6 : decode cX12_goes 6 = .ok (.lload 6, 2) := by decide +kernel
theorem tX12_goes_6 {d : Nat} {l0 l1 l2 l3 l4 l5 l7 l8 l9 : Option Value} {v0 : Value} {x : Int64} {m : jmM} {Q : Option Value → jmM → Prop} : AW d 234 6 [l0, l1, l2, l3, l4, l5, some (.long x), l7, l8, l9] [v0] m Q ↔ AW d 234 8 [l0, l1, l2, l3, l4, l5, some (.long x), l7, l8, l9] [.long x, v0] m Q := A_lload hB_X12_goes dX12_goes_6 rfl
theorem dX12_goes_8 : decode cX12_goes 8 = .ok (.lmul, 1) := by decide +kernel
theorem tX12_goes_8 {d : Nat} {l0 l1 l2 l3 l4 l5 l6 l7 l8 l9 : Option Value} {x y : Int64} {m : jmM} {Q : Option Value → jmM → Prop} : AW d 234 8 [l0, l1, l2, l3, l4, l5, l6, l7, l8, l9] [.long y, .long x] m Q ↔ AW d 234 9 [l0, l1, l2, l3, l4, l5, l6, l7, l8, l9] [.long (x * y)] m Q := A_lmul hB_X12_goes dX12_goes_8
theorem dX12_goes_9 : decode cX12_goes 9 = .ok (.ldc2_w 301, 3) := by decide +kernel
theorem tX12_goes_9 {d : Nat} {l0 l1 l2 l3 l4 l5 l6 l7 l8 l9 : Option Value} {v0 : Value} {m : jmM} {Q : Option Value → jmM → Prop} : AW d 234 9 [l0, l1, l2, l3, l4, l5, l6, l7, l8, l9] [v0] m Q ↔ AW d 234 12 [l0, l1, l2, l3, l4, l5, l6, l7, l8, l9] [.long 1000, v0] m Q := A_ldc2_w hB_X12_goes dX12_goes_9 hO_X12_goes fL2_12_301
theorem dX12_goes_12 : decode cX12_goes 12 = .ok (.ldiv, 1) := by decide +kernel
theorem tX12_goes_12 {d : Nat} {l0 l1 l2 l3 l4 l5 l6 l7 l8 l9 : Option Value} {x y : Int64} {m : jmM} {Q : Option Value → jmM → Prop} : AW d 234 12 [l0, l1, l2, l3, l4, l5, l6, l7, l8, l9] [.long y, .long x] m Q ↔ ¬ y = 0 ∧ AW d 234 13 [l0, l1, l2, l3, l4, l5, l6, l7, l8, l9] [.long (x / y)] m Q := A_ldiv hB_X12_goes dX12_goes_12
theorem dX12_goes_13 : decode cX12_goes 13 = .ok (.lstore 8, 2) := by decide +kernel
theorem tX12_goes_13 {d : Nat} {l0 l1 l2 l3 l4 l5 l6 l7 l8 l9 : Option Value} {x : Int64} {m : jmM} {Q : Option Value → jmM → Prop} : AW d 234 13 [l0, l1, l2, l3, l4, l5, l6, l7, l8, l9] [.long x] m Q ↔ AW d 234 15 [l0, l1, l2, l3, l4, l5, l6, jc1 l7, some (.long x), none] [] m Q := A_lstore hB_X12_goes dX12_goes_13 (Nat.le_of_ble_eq_true rfl) rfl
theorem dX12_goes_15 : decode cX12_goes 15 = .ok (.lload 8, 2) := by decide +kernel
theorem tX12_goes_15 {d : Nat} {l0 l1 l2 l3 l4 l5 l6 l7 l9 : Option Value} {x : Int64} {m : jmM} {Q : Option Value → jmM → Prop} : AW d 234 15 [l0, l1, l2, l3, l4, l5, l6, l7, some (.long x), l9] [] m Q ↔ AW d 234 17 [l0, l1, l2, l3, l4, l5, l6, l7, some (.long x), l9] [.long x] m Q := A_lload hB_X12_goes dX12_goes_15 rfl
theorem dX12_goes_17 : decode cX12_goes 17 = .ok (.lload_n 0, 1) := by decide +kernel
theorem tX12_goes_17 {d : Nat} {l1 l2 l3 l4 l5 l6 l7 l8 l9 : Option Value} {v0 : Value} {x : Int64} {m : jmM} {Q : Option Value → jmM → Prop} : AW d 234 17 [some (.long x), l1, l2, l3, l4, l5, l6, l7, l8, l9] [v0] m Q ↔ AW d 234 18 [some (.long x), l1, l2, l3, l4, l5, l6, l7, l8, l9] [.long x, v0] m Q := A_lload_n hB_X12_goes dX12_goes_17 rfl
theorem dX12_goes_18 : decode cX12_goes 18 = .ok (.lcmp, 1) := by decide +kernel
theorem tX12_goes_18 {d : Nat} {l0 l1 l2 l3 l4 l5 l6 l7 l8 l9 : Option Value} {x y : Int64} {m : jmM} {Q : Option Value → jmM → Prop} : AW d 234 18 [l0, l1, l2, l3, l4, l5, l6, l7, l8, l9] [.long y, .long x] m Q ↔ AW d 234 19 [l0, l1, l2, l3, l4, l5, l6, l7, l8, l9] [.int (lg_cmp x y)] m Q := A_lcmp hB_X12_goes dX12_goes_18
theorem dX12_goes_19 : decode cX12_goes 19 = .ok (.ifCond .le 7, 3) := by decide +kernel
theorem tX12_goes_19 {d : Nat} {l0 l1 l2 l3 l4 l5 l6 l7 l8 l9 : Option Value} {x : Int32} {m : jmM} {Q : Option Value → jmM → Prop} : AW d 234 19 [l0, l1, l2, l3, l4, l5, l6, l7, l8, l9] [.int x] m Q ↔ if x ≤ 0 then AW d 234 26 [l0, l1, l2, l3, l4, l5, l6, l7, l8, l9] [] m Q else AW d 234 22 [l0, l1, l2, l3, l4, l5, l6, l7, l8, l9] [] m Q := A_if_le hB_X12_goes dX12_goes_19 (by decide)
theorem dX12_goes_22 : decode cX12_goes 22 = .ok (.lload_n 0, 1) := by decide +kernel
theorem tX12_goes_22 {d : Nat} {l1 l2 l3 l4 l5 l6 l7 l8 l9 : Option Value} {x : Int64} {m : jmM} {Q : Option Value → jmM → Prop} : AW d 234 22 [some (.long x), l1, l2, l3, l4, l5, l6, l7, l8, l9] [] m Q ↔ AW d 234 23 [some (.long x), l1, l2, l3, l4, l5, l6, l7, l8, l9] [.long x] m Q := A_lload_n hB_X12_goes dX12_goes_22 rfl
theorem dX12_goes_23 : decode cX12_goes 23 = .ok (.goto 5, 3) := by decide +kernel
theorem tX12_goes_23 {d : Nat} {l0 l1 l2 l3 l4 l5 l6 l7 l8 l9 : Option Value} {v0 : Value} {m : jmM} {Q : Option Value → jmM → Prop} : AW d 234 23 [l0, l1, l2, l3, l4, l5, l6, l7, l8, l9] [v0] m Q ↔ AW d 234 28 [l0, l1, l2, l3, l4, l5, l6, l7, l8, l9] [v0] m Q := A_goto hB_X12_goes dX12_goes_23 (by decide)
theorem dX12_goes_26 : decode cX12_goes 26 = .ok (.lload 8, 2) := by decide +kernel
theorem tX12_goes_26 {d : Nat} {l0 l1 l2 l3 l4 l5 l6 l7 l9 : Option Value} {x : Int64} {m : jmM} {Q : Option Value → jmM → Prop} : AW d 234 26 [l0, l1, l2, l3, l4, l5, l6, l7, some (.long x), l9] [] m Q ↔ AW d 234 28 [l0, l1, l2, l3, l4, l5, l6, l7, some (.long x), l9] [.long x] m Q := A_lload hB_X12_goes dX12_goes_26 rfl
theorem dX12_goes_28 : decode cX12_goes 28 = .ok (.lreturn, 1) := by decide +kernel
theorem tX12_goes_28 {d : Nat} {l0 l1 l2 l3 l4 l5 l6 l7 l8 l9 : Option Value} {x : Int64} {m : jmM} {Q : Option Value → jmM → Prop} : AW d 234 28 [l0, l1, l2, l3, l4, l5, l6, l7, l8, l9] [.long x] m Q ↔ Q (some (.long x)) m := A_lreturn hB_X12_goes dX12_goes_28 hR_X12_goes
theorem hB_X12_words : jB 235 = cX12_words := rfl
theorem hO_X12_words : jO 235 = 12 := rfl
theorem hR_X12_words : jRt 235 = none := rfl
theorem nX12_words (d : Nat) (x0 : Nat) (x1 : Int32) (m : jmM) (Q : Option Value → jmM → Prop) : CC (d + 1) 235 [.ref x0, .int x1] m Q ↔ AW d 235 0 [some (.ref x0), some (.int x1)] [] m Q := CC_body (Nat.le_of_ble_eq_true rfl)
theorem dX12_words_0 : decode cX12_words 0 = .ok (.aload_n 0, 1) := by decide +kernel
theorem tX12_words_0 {d : Nat} {l1 : Option Value} {x : Nat} {m : jmM} {Q : Option Value → jmM → Prop} : AW d 235 0 [some (.ref x), l1] [] m Q ↔ AW d 235 1 [some (.ref x), l1] [.ref x] m Q := A_aload_n hB_X12_words dX12_words_0 rfl
theorem dX12_words_1 : decode cX12_words 1 = .ok (.getfield 42, 3) := by decide +kernel
theorem tX12_words_1 {d : Nat} {l0 l1 : Option Value} {a : Nat} {m : jmM} {Q : Option Value → jmM → Prop} : AW d 235 1 [l0, l1] [.ref a] m Q ↔ (mS m a).1 = 12 ∧ AW d 235 4 [l0, l1] [va_rf (mR m a 22)] m Q := A_getfield (f := fun m a => va_rf (mR m a 22)) hB_X12_words dX12_words_1 hO_X12_words fF_12_42 rfl
theorem dX12_words_4 : decode cX12_words 4 = .ok (.iconst 0, 1) := by decide +kernel
theorem tX12_words_4 {d : Nat} {l0 l1 : Option Value} {v0 : Value} {m : jmM} {Q : Option Value → jmM → Prop} : AW d 235 4 [l0, l1] [v0] m Q ↔ AW d 235 5 [l0, l1] [.int 0, v0] m Q := A_iconst hB_X12_words dX12_words_4 (by decide)
theorem dX12_words_5 : decode cX12_words 5 = .ok (.iload_n 1, 1) := by decide +kernel
theorem tX12_words_5 {d : Nat} {l0 : Option Value} {v0 v1 : Value} {x : Int32} {m : jmM} {Q : Option Value → jmM → Prop} : AW d 235 5 [l0, some (.int x)] [v0, v1] m Q ↔ AW d 235 6 [l0, some (.int x)] [.int x, v0, v1] m Q := A_iload_n hB_X12_words dX12_words_5 rfl
theorem dX12_words_6 : decode cX12_words 6 = .ok (.i2l, 1) := by decide +kernel
theorem tX12_words_6 {d : Nat} {l0 l1 : Option Value} {v1 v2 : Value} {x : Int32} {m : jmM} {Q : Option Value → jmM → Prop} : AW d 235 6 [l0, l1] [.int x, v1, v2] m Q ↔ AW d 235 7 [l0, l1] [.long x.toInt64, v1, v2] m Q := A_i2l hB_X12_words dX12_words_6
theorem dX12_words_7 : decode cX12_words 7 = .ok (.lastore, 1) := by decide +kernel
theorem tX12_words_7 {d : Nat} {l0 l1 : Option Value} {x : Int64} {i : Int32} {a : Nat} {m : jmM} {Q : Option Value → jmM → Prop} : AW d 235 7 [l0, l1] [.long x, .int i, .ref a] m Q ↔ ((mS m a).1 = 21 ∧ jIx i (mS m a).2) ∧ AW d 235 8 [l0, l1] [] (cL m a (jup (mL m a) (jx i) x)) Q := A_lastore hB_X12_words dX12_words_7
theorem dX12_words_8 : decode cX12_words 8 = .ok (.aload_n 0, 1) := by decide +kernel
theorem tX12_words_8 {d : Nat} {l1 : Option Value} {x : Nat} {m : jmM} {Q : Option Value → jmM → Prop} : AW d 235 8 [some (.ref x), l1] [] m Q ↔ AW d 235 9 [some (.ref x), l1] [.ref x] m Q := A_aload_n hB_X12_words dX12_words_8 rfl
theorem dX12_words_9 : decode cX12_words 9 = .ok (.getfield 42, 3) := by decide +kernel
theorem tX12_words_9 {d : Nat} {l0 l1 : Option Value} {a : Nat} {m : jmM} {Q : Option Value → jmM → Prop} : AW d 235 9 [l0, l1] [.ref a] m Q ↔ (mS m a).1 = 12 ∧ AW d 235 12 [l0, l1] [va_rf (mR m a 22)] m Q := A_getfield (f := fun m a => va_rf (mR m a 22)) hB_X12_words dX12_words_9 hO_X12_words fF_12_42 rfl
theorem dX12_words_12 : decode cX12_words 12 = .ok (.iconst 1, 1) := by decide +kernel
theorem tX12_words_12 {d : Nat} {l0 l1 : Option Value} {v0 : Value} {m : jmM} {Q : Option Value → jmM → Prop} : AW d 235 12 [l0, l1] [v0] m Q ↔ AW d 235 13 [l0, l1] [.int 1, v0] m Q := A_iconst hB_X12_words dX12_words_12 (by decide)
theorem dX12_words_13 : decode cX12_words 13 = .ok (.aload_n 0, 1) := by decide +kernel
theorem tX12_words_13 {d : Nat} {l1 : Option Value} {v0 v1 : Value} {x : Nat} {m : jmM} {Q : Option Value → jmM → Prop} : AW d 235 13 [some (.ref x), l1] [v0, v1] m Q ↔ AW d 235 14 [some (.ref x), l1] [.ref x, v0, v1] m Q := A_aload_n hB_X12_words dX12_words_13 rfl
theorem dX12_words_14 : decode cX12_words 14 = .ok (.iload_n 1, 1) := by decide +kernel
theorem tX12_words_14 {d : Nat} {l0 : Option Value} {v0 v1 v2 : Value} {x : Int32} {m : jmM} {Q : Option Value → jmM → Prop} : AW d 235 14 [l0, some (.int x)] [v0, v1, v2] m Q ↔ AW d 235 15 [l0, some (.int x)] [.int x, v0, v1, v2] m Q := A_iload_n hB_X12_words dX12_words_14 rfl
theorem dX12_words_15 : decode cX12_words 15 = .ok (.iconst 1, 1) := by decide +kernel
theorem tX12_words_15 {d : Nat} {l0 l1 : Option Value} {v0 v1 v2 v3 : Value} {m : jmM} {Q : Option Value → jmM → Prop} : AW d 235 15 [l0, l1] [v0, v1, v2, v3] m Q ↔ AW d 235 16 [l0, l1] [.int 1, v0, v1, v2, v3] m Q := A_iconst hB_X12_words dX12_words_15 (by decide)
theorem dX12_words_16 : decode cX12_words 16 = .ok (.isub, 1) := by decide +kernel
theorem tX12_words_16 {d : Nat} {l0 l1 : Option Value} {v2 v3 v4 : Value} {x y : Int32} {m : jmM} {Q : Option Value → jmM → Prop} : AW d 235 16 [l0, l1] [.int y, .int x, v2, v3, v4] m Q ↔ AW d 235 17 [l0, l1] [.int (x - y), v2, v3, v4] m Q := A_isub hB_X12_words dX12_words_16
theorem dX12_words_17 : decode cX12_words 17 = .ok (.aload_n 0, 1) := by decide +kernel
theorem tX12_words_17 {d : Nat} {l1 : Option Value} {v0 v1 v2 v3 : Value} {x : Nat} {m : jmM} {Q : Option Value → jmM → Prop} : AW d 235 17 [some (.ref x), l1] [v0, v1, v2, v3] m Q ↔ AW d 235 18 [some (.ref x), l1] [.ref x, v0, v1, v2, v3] m Q := A_aload_n hB_X12_words dX12_words_17 rfl
theorem dX12_words_18 : decode cX12_words 18 = .ok (.getfield 29, 3) := by decide +kernel
theorem tX12_words_18 {d : Nat} {l0 l1 : Option Value} {v1 v2 v3 v4 : Value} {a : Nat} {m : jmM} {Q : Option Value → jmM → Prop} : AW d 235 18 [l0, l1] [.ref a, v1, v2, v3, v4] m Q ↔ (mS m a).1 = 12 ∧ AW d 235 21 [l0, l1] [va_rf (mR m a 7), v1, v2, v3, v4] m Q := A_getfield (f := fun m a => va_rf (mR m a 7)) hB_X12_words dX12_words_18 hO_X12_words fF_12_29 rfl
theorem dX12_words_21 : decode cX12_words 21 = .ok (.aload_n 0, 1) := by decide +kernel
theorem tX12_words_21 {d : Nat} {l1 : Option Value} {v0 v1 v2 v3 v4 : Value} {x : Nat} {m : jmM} {Q : Option Value → jmM → Prop} : AW d 235 21 [some (.ref x), l1] [v0, v1, v2, v3, v4] m Q ↔ AW d 235 22 [some (.ref x), l1] [.ref x, v0, v1, v2, v3, v4] m Q := A_aload_n hB_X12_words dX12_words_21 rfl
theorem dX12_words_22 : decode cX12_words 22 = .ok (.getfield 51, 3) := by decide +kernel
theorem tX12_words_22 {d : Nat} {l0 l1 : Option Value} {v1 v2 v3 v4 v5 : Value} {a : Nat} {m : jmM} {Q : Option Value → jmM → Prop} : AW d 235 22 [l0, l1] [.ref a, v1, v2, v3, v4, v5] m Q ↔ (mS m a).1 = 12 ∧ AW d 235 25 [l0, l1] [va_rf (mR m a 25), v1, v2, v3, v4, v5] m Q := A_getfield (f := fun m a => va_rf (mR m a 25)) hB_X12_words dX12_words_22 hO_X12_words fF_12_51 rfl
theorem dX12_words_25 : decode cX12_words 25 = .ok (.iconst 1, 1) := by decide +kernel
theorem tX12_words_25 {d : Nat} {l0 l1 : Option Value} {v0 v1 v2 v3 v4 v5 : Value} {m : jmM} {Q : Option Value → jmM → Prop} : AW d 235 25 [l0, l1] [v0, v1, v2, v3, v4, v5] m Q ↔ AW d 235 26 [l0, l1] [.int 1, v0, v1, v2, v3, v4, v5] m Q := A_iconst hB_X12_words dX12_words_25 (by decide)
theorem dX12_words_26 : decode cX12_words 26 = .ok (.iaload, 1) := by decide +kernel
theorem tX12_words_26 {d : Nat} {l0 l1 : Option Value} {v2 v3 v4 v5 v6 : Value} {i : Int32} {a : Nat} {m : jmM} {Q : Option Value → jmM → Prop} : AW d 235 26 [l0, l1] [.int i, .ref a, v2, v3, v4, v5, v6] m Q ↔ (((mS m a).1 = 20 ∨ a = jScr) ∧ jIx i (mS m a).2) ∧ AW d 235 27 [l0, l1] [.int (mI m a (jx i)), v2, v3, v4, v5, v6] m Q := A_iaload hB_X12_words dX12_words_26
theorem dX12_words_27 : decode cX12_words 27 = .ok (.iaload, 1) := by decide +kernel
theorem tX12_words_27 {d : Nat} {l0 l1 : Option Value} {v2 v3 v4 v5 : Value} {i : Int32} {a : Nat} {m : jmM} {Q : Option Value → jmM → Prop} : AW d 235 27 [l0, l1] [.int i, .ref a, v2, v3, v4, v5] m Q ↔ (((mS m a).1 = 20 ∨ a = jScr) ∧ jIx i (mS m a).2) ∧ AW d 235 28 [l0, l1] [.int (mI m a (jx i)), v2, v3, v4, v5] m Q := A_iaload hB_X12_words dX12_words_27
theorem dX12_words_28 : decode cX12_words 28 = .ok (.isub, 1) := by decide +kernel
theorem tX12_words_28 {d : Nat} {l0 l1 : Option Value} {v2 v3 v4 : Value} {x y : Int32} {m : jmM} {Q : Option Value → jmM → Prop} : AW d 235 28 [l0, l1] [.int y, .int x, v2, v3, v4] m Q ↔ AW d 235 29 [l0, l1] [.int (x - y), v2, v3, v4] m Q := A_isub hB_X12_words dX12_words_28
theorem dX12_words_29 : decode cX12_words 29 = .ok (.invokevirtual 303, 3) := by decide +kernel
theorem tX12_words_29 {d : Nat} {l0 l1 : Option Value} {v2 v3 : Value} {y0 : Value} {a : Nat} {m : jmM} {Q : Option Value → jmM → Prop} : AW d 235 29 [l0, l1] [y0, .ref a, v2, v3] m Q ↔ (mS m a).1 = 12 ∧ CC d 233 [.ref a, y0] m (jK d 235 32 [l0, l1] [v2, v3] Q) := A_callV hB_X12_words dX12_words_29 hO_X12_words fS_12_303 ⟨Nat.le_of_ble_eq_true rfl, Nat.le_of_ble_eq_true rfl⟩ rfl rfl rfl
theorem dX12_words_32 : decode cX12_words 32 = .ok (.i2l, 1) := by decide +kernel
theorem tX12_words_32 {d : Nat} {l0 l1 : Option Value} {v1 v2 : Value} {x : Int32} {m : jmM} {Q : Option Value → jmM → Prop} : AW d 235 32 [l0, l1] [.int x, v1, v2] m Q ↔ AW d 235 33 [l0, l1] [.long x.toInt64, v1, v2] m Q := A_i2l hB_X12_words dX12_words_32
theorem dX12_words_33 : decode cX12_words 33 = .ok (.lastore, 1) := by decide +kernel
theorem tX12_words_33 {d : Nat} {l0 l1 : Option Value} {x : Int64} {i : Int32} {a : Nat} {m : jmM} {Q : Option Value → jmM → Prop} : AW d 235 33 [l0, l1] [.long x, .int i, .ref a] m Q ↔ ((mS m a).1 = 21 ∧ jIx i (mS m a).2) ∧ AW d 235 34 [l0, l1] [] (cL m a (jup (mL m a) (jx i) x)) Q := A_lastore hB_X12_words dX12_words_33
theorem dX12_words_34 : decode cX12_words 34 = .ok (.aload_n 0, 1) := by decide +kernel
theorem tX12_words_34 {d : Nat} {l1 : Option Value} {x : Nat} {m : jmM} {Q : Option Value → jmM → Prop} : AW d 235 34 [some (.ref x), l1] [] m Q ↔ AW d 235 35 [some (.ref x), l1] [.ref x] m Q := A_aload_n hB_X12_words dX12_words_34 rfl
theorem dX12_words_35 : decode cX12_words 35 = .ok (.getfield 42, 3) := by decide +kernel
theorem tX12_words_35 {d : Nat} {l0 l1 : Option Value} {a : Nat} {m : jmM} {Q : Option Value → jmM → Prop} : AW d 235 35 [l0, l1] [.ref a] m Q ↔ (mS m a).1 = 12 ∧ AW d 235 38 [l0, l1] [va_rf (mR m a 22)] m Q := A_getfield (f := fun m a => va_rf (mR m a 22)) hB_X12_words dX12_words_35 hO_X12_words fF_12_42 rfl
theorem dX12_words_38 : decode cX12_words 38 = .ok (.iconst 2, 1) := by decide +kernel
theorem tX12_words_38 {d : Nat} {l0 l1 : Option Value} {v0 : Value} {m : jmM} {Q : Option Value → jmM → Prop} : AW d 235 38 [l0, l1] [v0] m Q ↔ AW d 235 39 [l0, l1] [.int 2, v0] m Q := A_iconst hB_X12_words dX12_words_38 (by decide)
theorem dX12_words_39 : decode cX12_words 39 = .ok (.aload_n 0, 1) := by decide +kernel
theorem tX12_words_39 {d : Nat} {l1 : Option Value} {v0 v1 : Value} {x : Nat} {m : jmM} {Q : Option Value → jmM → Prop} : AW d 235 39 [some (.ref x), l1] [v0, v1] m Q ↔ AW d 235 40 [some (.ref x), l1] [.ref x, v0, v1] m Q := A_aload_n hB_X12_words dX12_words_39 rfl
theorem dX12_words_40 : decode cX12_words 40 = .ok (.iload_n 1, 1) := by decide +kernel
theorem tX12_words_40 {d : Nat} {l0 : Option Value} {v0 v1 v2 : Value} {x : Int32} {m : jmM} {Q : Option Value → jmM → Prop} : AW d 235 40 [l0, some (.int x)] [v0, v1, v2] m Q ↔ AW d 235 41 [l0, some (.int x)] [.int x, v0, v1, v2] m Q := A_iload_n hB_X12_words dX12_words_40 rfl
theorem dX12_words_41 : decode cX12_words 41 = .ok (.iconst 2, 1) := by decide +kernel
theorem tX12_words_41 {d : Nat} {l0 l1 : Option Value} {v0 v1 v2 v3 : Value} {m : jmM} {Q : Option Value → jmM → Prop} : AW d 235 41 [l0, l1] [v0, v1, v2, v3] m Q ↔ AW d 235 42 [l0, l1] [.int 2, v0, v1, v2, v3] m Q := A_iconst hB_X12_words dX12_words_41 (by decide)
theorem dX12_words_42 : decode cX12_words 42 = .ok (.isub, 1) := by decide +kernel
theorem tX12_words_42 {d : Nat} {l0 l1 : Option Value} {v2 v3 v4 : Value} {x y : Int32} {m : jmM} {Q : Option Value → jmM → Prop} : AW d 235 42 [l0, l1] [.int y, .int x, v2, v3, v4] m Q ↔ AW d 235 43 [l0, l1] [.int (x - y), v2, v3, v4] m Q := A_isub hB_X12_words dX12_words_42
theorem dX12_words_43 : decode cX12_words 43 = .ok (.aload_n 0, 1) := by decide +kernel
theorem tX12_words_43 {d : Nat} {l1 : Option Value} {v0 v1 v2 v3 : Value} {x : Nat} {m : jmM} {Q : Option Value → jmM → Prop} : AW d 235 43 [some (.ref x), l1] [v0, v1, v2, v3] m Q ↔ AW d 235 44 [some (.ref x), l1] [.ref x, v0, v1, v2, v3] m Q := A_aload_n hB_X12_words dX12_words_43 rfl
theorem dX12_words_44 : decode cX12_words 44 = .ok (.getfield 29, 3) := by decide +kernel
theorem tX12_words_44 {d : Nat} {l0 l1 : Option Value} {v1 v2 v3 v4 : Value} {a : Nat} {m : jmM} {Q : Option Value → jmM → Prop} : AW d 235 44 [l0, l1] [.ref a, v1, v2, v3, v4] m Q ↔ (mS m a).1 = 12 ∧ AW d 235 47 [l0, l1] [va_rf (mR m a 7), v1, v2, v3, v4] m Q := A_getfield (f := fun m a => va_rf (mR m a 7)) hB_X12_words dX12_words_44 hO_X12_words fF_12_29 rfl
theorem dX12_words_47 : decode cX12_words 47 = .ok (.aload_n 0, 1) := by decide +kernel
theorem tX12_words_47 {d : Nat} {l1 : Option Value} {v0 v1 v2 v3 v4 : Value} {x : Nat} {m : jmM} {Q : Option Value → jmM → Prop} : AW d 235 47 [some (.ref x), l1] [v0, v1, v2, v3, v4] m Q ↔ AW d 235 48 [some (.ref x), l1] [.ref x, v0, v1, v2, v3, v4] m Q := A_aload_n hB_X12_words dX12_words_47 rfl
theorem dX12_words_48 : decode cX12_words 48 = .ok (.getfield 51, 3) := by decide +kernel
theorem tX12_words_48 {d : Nat} {l0 l1 : Option Value} {v1 v2 v3 v4 v5 : Value} {a : Nat} {m : jmM} {Q : Option Value → jmM → Prop} : AW d 235 48 [l0, l1] [.ref a, v1, v2, v3, v4, v5] m Q ↔ (mS m a).1 = 12 ∧ AW d 235 51 [l0, l1] [va_rf (mR m a 25), v1, v2, v3, v4, v5] m Q := A_getfield (f := fun m a => va_rf (mR m a 25)) hB_X12_words dX12_words_48 hO_X12_words fF_12_51 rfl
theorem dX12_words_51 : decode cX12_words 51 = .ok (.iconst 1, 1) := by decide +kernel
theorem tX12_words_51 {d : Nat} {l0 l1 : Option Value} {v0 v1 v2 v3 v4 v5 : Value} {m : jmM} {Q : Option Value → jmM → Prop} : AW d 235 51 [l0, l1] [v0, v1, v2, v3, v4, v5] m Q ↔ AW d 235 52 [l0, l1] [.int 1, v0, v1, v2, v3, v4, v5] m Q := A_iconst hB_X12_words dX12_words_51 (by decide)
theorem dX12_words_52 : decode cX12_words 52 = .ok (.iaload, 1) := by decide +kernel
theorem tX12_words_52 {d : Nat} {l0 l1 : Option Value} {v2 v3 v4 v5 v6 : Value} {i : Int32} {a : Nat} {m : jmM} {Q : Option Value → jmM → Prop} : AW d 235 52 [l0, l1] [.int i, .ref a, v2, v3, v4, v5, v6] m Q ↔ (((mS m a).1 = 20 ∨ a = jScr) ∧ jIx i (mS m a).2) ∧ AW d 235 53 [l0, l1] [.int (mI m a (jx i)), v2, v3, v4, v5, v6] m Q := A_iaload hB_X12_words dX12_words_52
theorem dX12_words_53 : decode cX12_words 53 = .ok (.iaload, 1) := by decide +kernel
theorem tX12_words_53 {d : Nat} {l0 l1 : Option Value} {v2 v3 v4 v5 : Value} {i : Int32} {a : Nat} {m : jmM} {Q : Option Value → jmM → Prop} : AW d 235 53 [l0, l1] [.int i, .ref a, v2, v3, v4, v5] m Q ↔ (((mS m a).1 = 20 ∨ a = jScr) ∧ jIx i (mS m a).2) ∧ AW d 235 54 [l0, l1] [.int (mI m a (jx i)), v2, v3, v4, v5] m Q := A_iaload hB_X12_words dX12_words_53
theorem dX12_words_54 : decode cX12_words 54 = .ok (.isub, 1) := by decide +kernel
theorem tX12_words_54 {d : Nat} {l0 l1 : Option Value} {v2 v3 v4 : Value} {x y : Int32} {m : jmM} {Q : Option Value → jmM → Prop} : AW d 235 54 [l0, l1] [.int y, .int x, v2, v3, v4] m Q ↔ AW d 235 55 [l0, l1] [.int (x - y), v2, v3, v4] m Q := A_isub hB_X12_words dX12_words_54
theorem dX12_words_55 : decode cX12_words 55 = .ok (.invokevirtual 303, 3) := by decide +kernel
theorem tX12_words_55 {d : Nat} {l0 l1 : Option Value} {v2 v3 : Value} {y0 : Value} {a : Nat} {m : jmM} {Q : Option Value → jmM → Prop} : AW d 235 55 [l0, l1] [y0, .ref a, v2, v3] m Q ↔ (mS m a).1 = 12 ∧ CC d 233 [.ref a, y0] m (jK d 235 58 [l0, l1] [v2, v3] Q) := A_callV hB_X12_words dX12_words_55 hO_X12_words fS_12_303 ⟨Nat.le_of_ble_eq_true rfl, Nat.le_of_ble_eq_true rfl⟩ rfl rfl rfl
theorem dX12_words_58 : decode cX12_words 58 = .ok (.i2l, 1) := by decide +kernel
theorem tX12_words_58 {d : Nat} {l0 l1 : Option Value} {v1 v2 : Value} {x : Int32} {m : jmM} {Q : Option Value → jmM → Prop} : AW d 235 58 [l0, l1] [.int x, v1, v2] m Q ↔ AW d 235 59 [l0, l1] [.long x.toInt64, v1, v2] m Q := A_i2l hB_X12_words dX12_words_58
theorem dX12_words_59 : decode cX12_words 59 = .ok (.lastore, 1) := by decide +kernel
theorem tX12_words_59 {d : Nat} {l0 l1 : Option Value} {x : Int64} {i : Int32} {a : Nat} {m : jmM} {Q : Option Value → jmM → Prop} : AW d 235 59 [l0, l1] [.long x, .int i, .ref a] m Q ↔ ((mS m a).1 = 21 ∧ jIx i (mS m a).2) ∧ AW d 235 60 [l0, l1] [] (cL m a (jup (mL m a) (jx i) x)) Q := A_lastore hB_X12_words dX12_words_59
theorem dX12_words_60 : decode cX12_words 60 = .ok (.aload_n 0, 1) := by decide +kernel
theorem tX12_words_60 {d : Nat} {l1 : Option Value} {x : Nat} {m : jmM} {Q : Option Value → jmM → Prop} : AW d 235 60 [some (.ref x), l1] [] m Q ↔ AW d 235 61 [some (.ref x), l1] [.ref x] m Q := A_aload_n hB_X12_words dX12_words_60 rfl
theorem dX12_words_61 : decode cX12_words 61 = .ok (.getfield 42, 3) := by decide +kernel
theorem tX12_words_61 {d : Nat} {l0 l1 : Option Value} {a : Nat} {m : jmM} {Q : Option Value → jmM → Prop} : AW d 235 61 [l0, l1] [.ref a] m Q ↔ (mS m a).1 = 12 ∧ AW d 235 64 [l0, l1] [va_rf (mR m a 22)] m Q := A_getfield (f := fun m a => va_rf (mR m a 22)) hB_X12_words dX12_words_61 hO_X12_words fF_12_42 rfl
theorem dX12_words_64 : decode cX12_words 64 = .ok (.iconst 3, 1) := by decide +kernel
theorem tX12_words_64 {d : Nat} {l0 l1 : Option Value} {v0 : Value} {m : jmM} {Q : Option Value → jmM → Prop} : AW d 235 64 [l0, l1] [v0] m Q ↔ AW d 235 65 [l0, l1] [.int 3, v0] m Q := A_iconst hB_X12_words dX12_words_64 (by decide)
theorem dX12_words_65 : decode cX12_words 65 = .ok (.aload_n 0, 1) := by decide +kernel
theorem tX12_words_65 {d : Nat} {l1 : Option Value} {v0 v1 : Value} {x : Nat} {m : jmM} {Q : Option Value → jmM → Prop} : AW d 235 65 [some (.ref x), l1] [v0, v1] m Q ↔ AW d 235 66 [some (.ref x), l1] [.ref x, v0, v1] m Q := A_aload_n hB_X12_words dX12_words_65 rfl
theorem dX12_words_66 : decode cX12_words 66 = .ok (.getfield 51, 3) := by decide +kernel
theorem tX12_words_66 {d : Nat} {l0 l1 : Option Value} {v1 v2 : Value} {a : Nat} {m : jmM} {Q : Option Value → jmM → Prop} : AW d 235 66 [l0, l1] [.ref a, v1, v2] m Q ↔ (mS m a).1 = 12 ∧ AW d 235 69 [l0, l1] [va_rf (mR m a 25), v1, v2] m Q := A_getfield (f := fun m a => va_rf (mR m a 25)) hB_X12_words dX12_words_66 hO_X12_words fF_12_51 rfl
theorem dX12_words_69 : decode cX12_words 69 = .ok (.iconst 4, 1) := by decide +kernel
theorem tX12_words_69 {d : Nat} {l0 l1 : Option Value} {v0 v1 v2 : Value} {m : jmM} {Q : Option Value → jmM → Prop} : AW d 235 69 [l0, l1] [v0, v1, v2] m Q ↔ AW d 235 70 [l0, l1] [.int 4, v0, v1, v2] m Q := A_iconst hB_X12_words dX12_words_69 (by decide)
theorem dX12_words_70 : decode cX12_words 70 = .ok (.iaload, 1) := by decide +kernel
theorem tX12_words_70 {d : Nat} {l0 l1 : Option Value} {v2 v3 : Value} {i : Int32} {a : Nat} {m : jmM} {Q : Option Value → jmM → Prop} : AW d 235 70 [l0, l1] [.int i, .ref a, v2, v3] m Q ↔ (((mS m a).1 = 20 ∨ a = jScr) ∧ jIx i (mS m a).2) ∧ AW d 235 71 [l0, l1] [.int (mI m a (jx i)), v2, v3] m Q := A_iaload hB_X12_words dX12_words_70
theorem dX12_words_71 : decode cX12_words 71 = .ok (.i2l, 1) := by decide +kernel
theorem tX12_words_71 {d : Nat} {l0 l1 : Option Value} {v1 v2 : Value} {x : Int32} {m : jmM} {Q : Option Value → jmM → Prop} : AW d 235 71 [l0, l1] [.int x, v1, v2] m Q ↔ AW d 235 72 [l0, l1] [.long x.toInt64, v1, v2] m Q := A_i2l hB_X12_words dX12_words_71
theorem dX12_words_72 : decode cX12_words 72 = .ok (.lastore, 1) := by decide +kernel
theorem tX12_words_72 {d : Nat} {l0 l1 : Option Value} {x : Int64} {i : Int32} {a : Nat} {m : jmM} {Q : Option Value → jmM → Prop} : AW d 235 72 [l0, l1] [.long x, .int i, .ref a] m Q ↔ ((mS m a).1 = 21 ∧ jIx i (mS m a).2) ∧ AW d 235 73 [l0, l1] [] (cL m a (jup (mL m a) (jx i) x)) Q := A_lastore hB_X12_words dX12_words_72
theorem dX12_words_73 : decode cX12_words 73 = .ok (.aload_n 0, 1) := by decide +kernel
theorem tX12_words_73 {d : Nat} {l1 : Option Value} {x : Nat} {m : jmM} {Q : Option Value → jmM → Prop} : AW d 235 73 [some (.ref x), l1] [] m Q ↔ AW d 235 74 [some (.ref x), l1] [.ref x] m Q := A_aload_n hB_X12_words dX12_words_73 rfl
theorem dX12_words_74 : decode cX12_words 74 = .ok (.getfield 42, 3) := by decide +kernel
theorem tX12_words_74 {d : Nat} {l0 l1 : Option Value} {a : Nat} {m : jmM} {Q : Option Value → jmM → Prop} : AW d 235 74 [l0, l1] [.ref a] m Q ↔ (mS m a).1 = 12 ∧ AW d 235 77 [l0, l1] [va_rf (mR m a 22)] m Q := A_getfield (f := fun m a => va_rf (mR m a 22)) hB_X12_words dX12_words_74 hO_X12_words fF_12_42 rfl
theorem dX12_words_77 : decode cX12_words 77 = .ok (.iconst 4, 1) := by decide +kernel
theorem tX12_words_77 {d : Nat} {l0 l1 : Option Value} {v0 : Value} {m : jmM} {Q : Option Value → jmM → Prop} : AW d 235 77 [l0, l1] [v0] m Q ↔ AW d 235 78 [l0, l1] [.int 4, v0] m Q := A_iconst hB_X12_words dX12_words_77 (by decide)
theorem dX12_words_78 : decode cX12_words 78 = .ok (.aload_n 0, 1) := by decide +kernel
theorem tX12_words_78 {d : Nat} {l1 : Option Value} {v0 v1 : Value} {x : Nat} {m : jmM} {Q : Option Value → jmM → Prop} : AW d 235 78 [some (.ref x), l1] [v0, v1] m Q ↔ AW d 235 79 [some (.ref x), l1] [.ref x, v0, v1] m Q := A_aload_n hB_X12_words dX12_words_78 rfl
theorem dX12_words_79 : decode cX12_words 79 = .ok (.getfield 51, 3) := by decide +kernel
theorem tX12_words_79 {d : Nat} {l0 l1 : Option Value} {v1 v2 : Value} {a : Nat} {m : jmM} {Q : Option Value → jmM → Prop} : AW d 235 79 [l0, l1] [.ref a, v1, v2] m Q ↔ (mS m a).1 = 12 ∧ AW d 235 82 [l0, l1] [va_rf (mR m a 25), v1, v2] m Q := A_getfield (f := fun m a => va_rf (mR m a 25)) hB_X12_words dX12_words_79 hO_X12_words fF_12_51 rfl
theorem dX12_words_82 : decode cX12_words 82 = .ok (.bipush 11, 2) := by decide +kernel
theorem tX12_words_82 {d : Nat} {l0 l1 : Option Value} {v0 v1 v2 : Value} {m : jmM} {Q : Option Value → jmM → Prop} : AW d 235 82 [l0, l1] [v0, v1, v2] m Q ↔ AW d 235 84 [l0, l1] [.int 11, v0, v1, v2] m Q := A_bipush hB_X12_words dX12_words_82 rfl
theorem dX12_words_84 : decode cX12_words 84 = .ok (.iaload, 1) := by decide +kernel
theorem tX12_words_84 {d : Nat} {l0 l1 : Option Value} {v2 v3 : Value} {i : Int32} {a : Nat} {m : jmM} {Q : Option Value → jmM → Prop} : AW d 235 84 [l0, l1] [.int i, .ref a, v2, v3] m Q ↔ (((mS m a).1 = 20 ∨ a = jScr) ∧ jIx i (mS m a).2) ∧ AW d 235 85 [l0, l1] [.int (mI m a (jx i)), v2, v3] m Q := A_iaload hB_X12_words dX12_words_84
theorem dX12_words_85 : decode cX12_words 85 = .ok (.i2l, 1) := by decide +kernel
theorem tX12_words_85 {d : Nat} {l0 l1 : Option Value} {v1 v2 : Value} {x : Int32} {m : jmM} {Q : Option Value → jmM → Prop} : AW d 235 85 [l0, l1] [.int x, v1, v2] m Q ↔ AW d 235 86 [l0, l1] [.long x.toInt64, v1, v2] m Q := A_i2l hB_X12_words dX12_words_85
theorem dX12_words_86 : decode cX12_words 86 = .ok (.lastore, 1) := by decide +kernel
theorem tX12_words_86 {d : Nat} {l0 l1 : Option Value} {x : Int64} {i : Int32} {a : Nat} {m : jmM} {Q : Option Value → jmM → Prop} : AW d 235 86 [l0, l1] [.long x, .int i, .ref a] m Q ↔ ((mS m a).1 = 21 ∧ jIx i (mS m a).2) ∧ AW d 235 87 [l0, l1] [] (cL m a (jup (mL m a) (jx i) x)) Q := A_lastore hB_X12_words dX12_words_86
theorem dX12_words_87 : decode cX12_words 87 = .ok (.aload_n 0, 1) := by decide +kernel
theorem tX12_words_87 {d : Nat} {l1 : Option Value} {x : Nat} {m : jmM} {Q : Option Value → jmM → Prop} : AW d 235 87 [some (.ref x), l1] [] m Q ↔ AW d 235 88 [some (.ref x), l1] [.ref x] m Q := A_aload_n hB_X12_words dX12_words_87 rfl
theorem dX12_words_88 : decode cX12_words 88 = .ok (.getfield 42, 3) := by decide +kernel
theorem tX12_words_88 {d : Nat} {l0 l1 : Option Value} {a : Nat} {m : jmM} {Q : Option Value → jmM → Prop} : AW d 235 88 [l0, l1] [.ref a] m Q ↔ (mS m a).1 = 12 ∧ AW d 235 91 [l0, l1] [va_rf (mR m a 22)] m Q := A_getfield (f := fun m a => va_rf (mR m a 22)) hB_X12_words dX12_words_88 hO_X12_words fF_12_42 rfl
theorem dX12_words_91 : decode cX12_words 91 = .ok (.iconst 5, 1) := by decide +kernel
theorem tX12_words_91 {d : Nat} {l0 l1 : Option Value} {v0 : Value} {m : jmM} {Q : Option Value → jmM → Prop} : AW d 235 91 [l0, l1] [v0] m Q ↔ AW d 235 92 [l0, l1] [.int 5, v0] m Q := A_iconst hB_X12_words dX12_words_91 (by decide)
theorem dX12_words_92 : decode cX12_words 92 = .ok (.aload_n 0, 1) := by decide +kernel
theorem tX12_words_92 {d : Nat} {l1 : Option Value} {v0 v1 : Value} {x : Nat} {m : jmM} {Q : Option Value → jmM → Prop} : AW d 235 92 [some (.ref x), l1] [v0, v1] m Q ↔ AW d 235 93 [some (.ref x), l1] [.ref x, v0, v1] m Q := A_aload_n hB_X12_words dX12_words_92 rfl
theorem dX12_words_93 : decode cX12_words 93 = .ok (.getfield 51, 3) := by decide +kernel
theorem tX12_words_93 {d : Nat} {l0 l1 : Option Value} {v1 v2 : Value} {a : Nat} {m : jmM} {Q : Option Value → jmM → Prop} : AW d 235 93 [l0, l1] [.ref a, v1, v2] m Q ↔ (mS m a).1 = 12 ∧ AW d 235 96 [l0, l1] [va_rf (mR m a 25), v1, v2] m Q := A_getfield (f := fun m a => va_rf (mR m a 25)) hB_X12_words dX12_words_93 hO_X12_words fF_12_51 rfl
theorem dX12_words_96 : decode cX12_words 96 = .ok (.bipush 12, 2) := by decide +kernel
theorem tX12_words_96 {d : Nat} {l0 l1 : Option Value} {v0 v1 v2 : Value} {m : jmM} {Q : Option Value → jmM → Prop} : AW d 235 96 [l0, l1] [v0, v1, v2] m Q ↔ AW d 235 98 [l0, l1] [.int 12, v0, v1, v2] m Q := A_bipush hB_X12_words dX12_words_96 rfl
theorem dX12_words_98 : decode cX12_words 98 = .ok (.iaload, 1) := by decide +kernel
theorem tX12_words_98 {d : Nat} {l0 l1 : Option Value} {v2 v3 : Value} {i : Int32} {a : Nat} {m : jmM} {Q : Option Value → jmM → Prop} : AW d 235 98 [l0, l1] [.int i, .ref a, v2, v3] m Q ↔ (((mS m a).1 = 20 ∨ a = jScr) ∧ jIx i (mS m a).2) ∧ AW d 235 99 [l0, l1] [.int (mI m a (jx i)), v2, v3] m Q := A_iaload hB_X12_words dX12_words_98
theorem dX12_words_99 : decode cX12_words 99 = .ok (.i2l, 1) := by decide +kernel
theorem tX12_words_99 {d : Nat} {l0 l1 : Option Value} {v1 v2 : Value} {x : Int32} {m : jmM} {Q : Option Value → jmM → Prop} : AW d 235 99 [l0, l1] [.int x, v1, v2] m Q ↔ AW d 235 100 [l0, l1] [.long x.toInt64, v1, v2] m Q := A_i2l hB_X12_words dX12_words_99
theorem dX12_words_100 : decode cX12_words 100 = .ok (.lastore, 1) := by decide +kernel
theorem tX12_words_100 {d : Nat} {l0 l1 : Option Value} {x : Int64} {i : Int32} {a : Nat} {m : jmM} {Q : Option Value → jmM → Prop} : AW d 235 100 [l0, l1] [.long x, .int i, .ref a] m Q ↔ ((mS m a).1 = 21 ∧ jIx i (mS m a).2) ∧ AW d 235 101 [l0, l1] [] (cL m a (jup (mL m a) (jx i) x)) Q := A_lastore hB_X12_words dX12_words_100
theorem dX12_words_101 : decode cX12_words 101 = .ok (.aload_n 0, 1) := by decide +kernel
theorem tX12_words_101 {d : Nat} {l1 : Option Value} {x : Nat} {m : jmM} {Q : Option Value → jmM → Prop} : AW d 235 101 [some (.ref x), l1] [] m Q ↔ AW d 235 102 [some (.ref x), l1] [.ref x] m Q := A_aload_n hB_X12_words dX12_words_101 rfl
theorem dX12_words_102 : decode cX12_words 102 = .ok (.getfield 42, 3) := by decide +kernel
theorem tX12_words_102 {d : Nat} {l0 l1 : Option Value} {a : Nat} {m : jmM} {Q : Option Value → jmM → Prop} : AW d 235 102 [l0, l1] [.ref a] m Q ↔ (mS m a).1 = 12 ∧ AW d 235 105 [l0, l1] [va_rf (mR m a 22)] m Q := A_getfield (f := fun m a => va_rf (mR m a 22)) hB_X12_words dX12_words_102 hO_X12_words fF_12_42 rfl
theorem dX12_words_105 : decode cX12_words 105 = .ok (.bipush 6, 2) := by decide +kernel
theorem tX12_words_105 {d : Nat} {l0 l1 : Option Value} {v0 : Value} {m : jmM} {Q : Option Value → jmM → Prop} : AW d 235 105 [l0, l1] [v0] m Q ↔ AW d 235 107 [l0, l1] [.int 6, v0] m Q := A_bipush hB_X12_words dX12_words_105 rfl
theorem dX12_words_107 : decode cX12_words 107 = .ok (.ldc2_w 301, 3) := by decide +kernel
theorem tX12_words_107 {d : Nat} {l0 l1 : Option Value} {v0 v1 : Value} {m : jmM} {Q : Option Value → jmM → Prop} : AW d 235 107 [l0, l1] [v0, v1] m Q ↔ AW d 235 110 [l0, l1] [.long 1000, v0, v1] m Q := A_ldc2_w hB_X12_words dX12_words_107 hO_X12_words fL2_12_301
theorem dX12_words_110 : decode cX12_words 110 = .ok (.aload_n 0, 1) := by decide +kernel
theorem tX12_words_110 {d : Nat} {l1 : Option Value} {v0 v1 v2 : Value} {x : Nat} {m : jmM} {Q : Option Value → jmM → Prop} : AW d 235 110 [some (.ref x), l1] [v0, v1, v2] m Q ↔ AW d 235 111 [some (.ref x), l1] [.ref x, v0, v1, v2] m Q := A_aload_n hB_X12_words dX12_words_110 rfl
theorem dX12_words_111 : decode cX12_words 111 = .ok (.getfield 51, 3) := by decide +kernel
theorem tX12_words_111 {d : Nat} {l0 l1 : Option Value} {v1 v2 v3 : Value} {a : Nat} {m : jmM} {Q : Option Value → jmM → Prop} : AW d 235 111 [l0, l1] [.ref a, v1, v2, v3] m Q ↔ (mS m a).1 = 12 ∧ AW d 235 114 [l0, l1] [va_rf (mR m a 25), v1, v2, v3] m Q := A_getfield (f := fun m a => va_rf (mR m a 25)) hB_X12_words dX12_words_111 hO_X12_words fF_12_51 rfl
theorem dX12_words_114 : decode cX12_words 114 = .ok (.bipush 9, 2) := by decide +kernel
theorem tX12_words_114 {d : Nat} {l0 l1 : Option Value} {v0 v1 v2 v3 : Value} {m : jmM} {Q : Option Value → jmM → Prop} : AW d 235 114 [l0, l1] [v0, v1, v2, v3] m Q ↔ AW d 235 116 [l0, l1] [.int 9, v0, v1, v2, v3] m Q := A_bipush hB_X12_words dX12_words_114 rfl
theorem dX12_words_116 : decode cX12_words 116 = .ok (.iaload, 1) := by decide +kernel
theorem tX12_words_116 {d : Nat} {l0 l1 : Option Value} {v2 v3 v4 : Value} {i : Int32} {a : Nat} {m : jmM} {Q : Option Value → jmM → Prop} : AW d 235 116 [l0, l1] [.int i, .ref a, v2, v3, v4] m Q ↔ (((mS m a).1 = 20 ∨ a = jScr) ∧ jIx i (mS m a).2) ∧ AW d 235 117 [l0, l1] [.int (mI m a (jx i)), v2, v3, v4] m Q := A_iaload hB_X12_words dX12_words_116
theorem dX12_words_117 : decode cX12_words 117 = .ok (.i2l, 1) := by decide +kernel
theorem tX12_words_117 {d : Nat} {l0 l1 : Option Value} {v1 v2 v3 : Value} {x : Int32} {m : jmM} {Q : Option Value → jmM → Prop} : AW d 235 117 [l0, l1] [.int x, v1, v2, v3] m Q ↔ AW d 235 118 [l0, l1] [.long x.toInt64, v1, v2, v3] m Q := A_i2l hB_X12_words dX12_words_117
theorem dX12_words_118 : decode cX12_words 118 = .ok (.lmul, 1) := by decide +kernel
theorem tX12_words_118 {d : Nat} {l0 l1 : Option Value} {v2 v3 : Value} {x y : Int64} {m : jmM} {Q : Option Value → jmM → Prop} : AW d 235 118 [l0, l1] [.long y, .long x, v2, v3] m Q ↔ AW d 235 119 [l0, l1] [.long (x * y), v2, v3] m Q := A_lmul hB_X12_words dX12_words_118
theorem dX12_words_119 : decode cX12_words 119 = .ok (.aload_n 0, 1) := by decide +kernel
theorem tX12_words_119 {d : Nat} {l1 : Option Value} {v0 v1 v2 : Value} {x : Nat} {m : jmM} {Q : Option Value → jmM → Prop} : AW d 235 119 [some (.ref x), l1] [v0, v1, v2] m Q ↔ AW d 235 120 [some (.ref x), l1] [.ref x, v0, v1, v2] m Q := A_aload_n hB_X12_words dX12_words_119 rfl
theorem dX12_words_120 : decode cX12_words 120 = .ok (.getfield 51, 3) := by decide +kernel
theorem tX12_words_120 {d : Nat} {l0 l1 : Option Value} {v1 v2 v3 : Value} {a : Nat} {m : jmM} {Q : Option Value → jmM → Prop} : AW d 235 120 [l0, l1] [.ref a, v1, v2, v3] m Q ↔ (mS m a).1 = 12 ∧ AW d 235 123 [l0, l1] [va_rf (mR m a 25), v1, v2, v3] m Q := A_getfield (f := fun m a => va_rf (mR m a 25)) hB_X12_words dX12_words_120 hO_X12_words fF_12_51 rfl
theorem dX12_words_123 : decode cX12_words 123 = .ok (.iconst 3, 1) := by decide +kernel
theorem tX12_words_123 {d : Nat} {l0 l1 : Option Value} {v0 v1 v2 v3 : Value} {m : jmM} {Q : Option Value → jmM → Prop} : AW d 235 123 [l0, l1] [v0, v1, v2, v3] m Q ↔ AW d 235 124 [l0, l1] [.int 3, v0, v1, v2, v3] m Q := A_iconst hB_X12_words dX12_words_123 (by decide)
theorem dX12_words_124 : decode cX12_words 124 = .ok (.iaload, 1) := by decide +kernel
theorem tX12_words_124 {d : Nat} {l0 l1 : Option Value} {v2 v3 v4 : Value} {i : Int32} {a : Nat} {m : jmM} {Q : Option Value → jmM → Prop} : AW d 235 124 [l0, l1] [.int i, .ref a, v2, v3, v4] m Q ↔ (((mS m a).1 = 20 ∨ a = jScr) ∧ jIx i (mS m a).2) ∧ AW d 235 125 [l0, l1] [.int (mI m a (jx i)), v2, v3, v4] m Q := A_iaload hB_X12_words dX12_words_124
theorem dX12_words_125 : decode cX12_words 125 = .ok (.i2l, 1) := by decide +kernel
theorem tX12_words_125 {d : Nat} {l0 l1 : Option Value} {v1 v2 v3 : Value} {x : Int32} {m : jmM} {Q : Option Value → jmM → Prop} : AW d 235 125 [l0, l1] [.int x, v1, v2, v3] m Q ↔ AW d 235 126 [l0, l1] [.long x.toInt64, v1, v2, v3] m Q := A_i2l hB_X12_words dX12_words_125
theorem dX12_words_126 : decode cX12_words 126 = .ok (.ldiv, 1) := by decide +kernel
theorem tX12_words_126 {d : Nat} {l0 l1 : Option Value} {v2 v3 : Value} {x y : Int64} {m : jmM} {Q : Option Value → jmM → Prop} : AW d 235 126 [l0, l1] [.long y, .long x, v2, v3] m Q ↔ ¬ y = 0 ∧ AW d 235 127 [l0, l1] [.long (x / y), v2, v3] m Q := A_ldiv hB_X12_words dX12_words_126
theorem dX12_words_127 : decode cX12_words 127 = .ok (.lastore, 1) := by decide +kernel
theorem tX12_words_127 {d : Nat} {l0 l1 : Option Value} {x : Int64} {i : Int32} {a : Nat} {m : jmM} {Q : Option Value → jmM → Prop} : AW d 235 127 [l0, l1] [.long x, .int i, .ref a] m Q ↔ ((mS m a).1 = 21 ∧ jIx i (mS m a).2) ∧ AW d 235 128 [l0, l1] [] (cL m a (jup (mL m a) (jx i) x)) Q := A_lastore hB_X12_words dX12_words_127
theorem dX12_words_128 : decode cX12_words 128 = .ok (.aload_n 0, 1) := by decide +kernel
theorem tX12_words_128 {d : Nat} {l1 : Option Value} {x : Nat} {m : jmM} {Q : Option Value → jmM → Prop} : AW d 235 128 [some (.ref x), l1] [] m Q ↔ AW d 235 129 [some (.ref x), l1] [.ref x] m Q := A_aload_n hB_X12_words dX12_words_128 rfl
theorem dX12_words_129 : decode cX12_words 129 = .ok (.getfield 42, 3) := by decide +kernel
theorem tX12_words_129 {d : Nat} {l0 l1 : Option Value} {a : Nat} {m : jmM} {Q : Option Value → jmM → Prop} : AW d 235 129 [l0, l1] [.ref a] m Q ↔ (mS m a).1 = 12 ∧ AW d 235 132 [l0, l1] [va_rf (mR m a 22)] m Q := A_getfield (f := fun m a => va_rf (mR m a 22)) hB_X12_words dX12_words_129 hO_X12_words fF_12_42 rfl
theorem dX12_words_132 : decode cX12_words 132 = .ok (.bipush 7, 2) := by decide +kernel
theorem tX12_words_132 {d : Nat} {l0 l1 : Option Value} {v0 : Value} {m : jmM} {Q : Option Value → jmM → Prop} : AW d 235 132 [l0, l1] [v0] m Q ↔ AW d 235 134 [l0, l1] [.int 7, v0] m Q := A_bipush hB_X12_words dX12_words_132 rfl
theorem dX12_words_134 : decode cX12_words 134 = .ok (.aload_n 0, 1) := by decide +kernel
theorem tX12_words_134 {d : Nat} {l1 : Option Value} {v0 v1 : Value} {x : Nat} {m : jmM} {Q : Option Value → jmM → Prop} : AW d 235 134 [some (.ref x), l1] [v0, v1] m Q ↔ AW d 235 135 [some (.ref x), l1] [.ref x, v0, v1] m Q := A_aload_n hB_X12_words dX12_words_134 rfl
theorem dX12_words_135 : decode cX12_words 135 = .ok (.getfield 51, 3) := by decide +kernel
theorem tX12_words_135 {d : Nat} {l0 l1 : Option Value} {v1 v2 : Value} {a : Nat} {m : jmM} {Q : Option Value → jmM → Prop} : AW d 235 135 [l0, l1] [.ref a, v1, v2] m Q ↔ (mS m a).1 = 12 ∧ AW d 235 138 [l0, l1] [va_rf (mR m a 25), v1, v2] m Q := A_getfield (f := fun m a => va_rf (mR m a 25)) hB_X12_words dX12_words_135 hO_X12_words fF_12_51 rfl
theorem dX12_words_138 : decode cX12_words 138 = .ok (.bipush 13, 2) := by decide +kernel
theorem tX12_words_138 {d : Nat} {l0 l1 : Option Value} {v0 v1 v2 : Value} {m : jmM} {Q : Option Value → jmM → Prop} : AW d 235 138 [l0, l1] [v0, v1, v2] m Q ↔ AW d 235 140 [l0, l1] [.int 13, v0, v1, v2] m Q := A_bipush hB_X12_words dX12_words_138 rfl
theorem dX12_words_140 : decode cX12_words 140 = .ok (.iaload, 1) := by decide +kernel
theorem tX12_words_140 {d : Nat} {l0 l1 : Option Value} {v2 v3 : Value} {i : Int32} {a : Nat} {m : jmM} {Q : Option Value → jmM → Prop} : AW d 235 140 [l0, l1] [.int i, .ref a, v2, v3] m Q ↔ (((mS m a).1 = 20 ∨ a = jScr) ∧ jIx i (mS m a).2) ∧ AW d 235 141 [l0, l1] [.int (mI m a (jx i)), v2, v3] m Q := A_iaload hB_X12_words dX12_words_140
theorem dX12_words_141 : decode cX12_words 141 = .ok (.i2l, 1) := by decide +kernel
theorem tX12_words_141 {d : Nat} {l0 l1 : Option Value} {v1 v2 : Value} {x : Int32} {m : jmM} {Q : Option Value → jmM → Prop} : AW d 235 141 [l0, l1] [.int x, v1, v2] m Q ↔ AW d 235 142 [l0, l1] [.long x.toInt64, v1, v2] m Q := A_i2l hB_X12_words dX12_words_141
theorem dX12_words_142 : decode cX12_words 142 = .ok (.lastore, 1) := by decide +kernel
theorem tX12_words_142 {d : Nat} {l0 l1 : Option Value} {x : Int64} {i : Int32} {a : Nat} {m : jmM} {Q : Option Value → jmM → Prop} : AW d 235 142 [l0, l1] [.long x, .int i, .ref a] m Q ↔ ((mS m a).1 = 21 ∧ jIx i (mS m a).2) ∧ AW d 235 143 [l0, l1] [] (cL m a (jup (mL m a) (jx i) x)) Q := A_lastore hB_X12_words dX12_words_142
theorem dX12_words_143 : decode cX12_words 143 = .ok (.aload_n 0, 1) := by decide +kernel
theorem tX12_words_143 {d : Nat} {l1 : Option Value} {x : Nat} {m : jmM} {Q : Option Value → jmM → Prop} : AW d 235 143 [some (.ref x), l1] [] m Q ↔ AW d 235 144 [some (.ref x), l1] [.ref x] m Q := A_aload_n hB_X12_words dX12_words_143 rfl
theorem dX12_words_144 : decode cX12_words 144 = .ok (.getfield 42, 3) := by decide +kernel
theorem tX12_words_144 {d : Nat} {l0 l1 : Option Value} {a : Nat} {m : jmM} {Q : Option Value → jmM → Prop} : AW d 235 144 [l0, l1] [.ref a] m Q ↔ (mS m a).1 = 12 ∧ AW d 235 147 [l0, l1] [va_rf (mR m a 22)] m Q := A_getfield (f := fun m a => va_rf (mR m a 22)) hB_X12_words dX12_words_144 hO_X12_words fF_12_42 rfl
theorem dX12_words_147 : decode cX12_words 147 = .ok (.bipush 8, 2) := by decide +kernel
theorem tX12_words_147 {d : Nat} {l0 l1 : Option Value} {v0 : Value} {m : jmM} {Q : Option Value → jmM → Prop} : AW d 235 147 [l0, l1] [v0] m Q ↔ AW d 235 149 [l0, l1] [.int 8, v0] m Q := A_bipush hB_X12_words dX12_words_147 rfl
theorem dX12_words_149 : decode cX12_words 149 = .ok (.aload_n 0, 1) := by decide +kernel
theorem tX12_words_149 {d : Nat} {l1 : Option Value} {v0 v1 : Value} {x : Nat} {m : jmM} {Q : Option Value → jmM → Prop} : AW d 235 149 [some (.ref x), l1] [v0, v1] m Q ↔ AW d 235 150 [some (.ref x), l1] [.ref x, v0, v1] m Q := A_aload_n hB_X12_words dX12_words_149 rfl
theorem dX12_words_150 : decode cX12_words 150 = .ok (.getfield 51, 3) := by decide +kernel
theorem tX12_words_150 {d : Nat} {l0 l1 : Option Value} {v1 v2 : Value} {a : Nat} {m : jmM} {Q : Option Value → jmM → Prop} : AW d 235 150 [l0, l1] [.ref a, v1, v2] m Q ↔ (mS m a).1 = 12 ∧ AW d 235 153 [l0, l1] [va_rf (mR m a 25), v1, v2] m Q := A_getfield (f := fun m a => va_rf (mR m a 25)) hB_X12_words dX12_words_150 hO_X12_words fF_12_51 rfl
theorem dX12_words_153 : decode cX12_words 153 = .ok (.bipush 10, 2) := by decide +kernel
theorem tX12_words_153 {d : Nat} {l0 l1 : Option Value} {v0 v1 v2 : Value} {m : jmM} {Q : Option Value → jmM → Prop} : AW d 235 153 [l0, l1] [v0, v1, v2] m Q ↔ AW d 235 155 [l0, l1] [.int 10, v0, v1, v2] m Q := A_bipush hB_X12_words dX12_words_153 rfl
theorem dX12_words_155 : decode cX12_words 155 = .ok (.iaload, 1) := by decide +kernel
theorem tX12_words_155 {d : Nat} {l0 l1 : Option Value} {v2 v3 : Value} {i : Int32} {a : Nat} {m : jmM} {Q : Option Value → jmM → Prop} : AW d 235 155 [l0, l1] [.int i, .ref a, v2, v3] m Q ↔ (((mS m a).1 = 20 ∨ a = jScr) ∧ jIx i (mS m a).2) ∧ AW d 235 156 [l0, l1] [.int (mI m a (jx i)), v2, v3] m Q := A_iaload hB_X12_words dX12_words_155
theorem dX12_words_156 : decode cX12_words 156 = .ok (.i2l, 1) := by decide +kernel
theorem tX12_words_156 {d : Nat} {l0 l1 : Option Value} {v1 v2 : Value} {x : Int32} {m : jmM} {Q : Option Value → jmM → Prop} : AW d 235 156 [l0, l1] [.int x, v1, v2] m Q ↔ AW d 235 157 [l0, l1] [.long x.toInt64, v1, v2] m Q := A_i2l hB_X12_words dX12_words_156
theorem dX12_words_157 : decode cX12_words 157 = .ok (.lastore, 1) := by decide +kernel
theorem tX12_words_157 {d : Nat} {l0 l1 : Option Value} {x : Int64} {i : Int32} {a : Nat} {m : jmM} {Q : Option Value → jmM → Prop} : AW d 235 157 [l0, l1] [.long x, .int i, .ref a] m Q ↔ ((mS m a).1 = 21 ∧ jIx i (mS m a).2) ∧ AW d 235 158 [l0, l1] [] (cL m a (jup (mL m a) (jx i) x)) Q := A_lastore hB_X12_words dX12_words_157
theorem dX12_words_158 : decode cX12_words 158 = .ok (.return_, 1) := by decide +kernel
theorem tX12_words_158 {d : Nat} {l0 l1 : Option Value} {m : jmM} {Q : Option Value → jmM → Prop} : AW d 235 158 [l0, l1] [] m Q ↔ Q none m := A_return hB_X12_words dX12_words_158 hR_X12_words
theorem hB_X12_minded : jB 236 = cX12_minded := rfl
theorem hO_X12_minded : jO 236 = 12 := rfl
theorem hR_X12_minded : jRt 236 = (some .int) := rfl
theorem nX12_minded (d : Nat) (x0 : Nat) (x1 : Int32) (x2 : Int32) (x3 : Int32) (m : jmM) (Q : Option Value → jmM → Prop) : CC (d + 1) 236 [.ref x0, .int x1, .int x2, .int x3] m Q ↔ AW d 236 0 [some (.ref x0), some (.int x1), some (.int x2), some (.int x3), none, none] [] m Q := CC_body (Nat.le_of_ble_eq_true rfl)
theorem dX12_minded_0 : decode cX12_minded 0 = .ok (.iconst 4, 1) := by decide +kernel
theorem tX12_minded_0 {d : Nat} {l0 l1 l2 l3 l4 l5 : Option Value} {m : jmM} {Q : Option Value → jmM → Prop} : AW d 236 0 [l0, l1, l2, l3, l4, l5] [] m Q ↔ AW d 236 1 [l0, l1, l2, l3, l4, l5] [.int 4] m Q := A_iconst hB_X12_minded dX12_minded_0 (by decide)
theorem dX12_minded_1 : decode cX12_minded 1 = .ok (.aload_n 0, 1) := by decide +kernel
theorem tX12_minded_1 {d : Nat} {l1 l2 l3 l4 l5 : Option Value} {v0 : Value} {x : Nat} {m : jmM} {Q : Option Value → jmM → Prop} : AW d 236 1 [some (.ref x), l1, l2, l3, l4, l5] [v0] m Q ↔ AW d 236 2 [some (.ref x), l1, l2, l3, l4, l5] [.ref x, v0] m Q := A_aload_n hB_X12_minded dX12_minded_1 rfl
theorem dX12_minded_2 : decode cX12_minded 2 = .ok (.getfield 51, 3) := by decide +kernel
theorem tX12_minded_2 {d : Nat} {l0 l1 l2 l3 l4 l5 : Option Value} {v1 : Value} {a : Nat} {m : jmM} {Q : Option Value → jmM → Prop} : AW d 236 2 [l0, l1, l2, l3, l4, l5] [.ref a, v1] m Q ↔ (mS m a).1 = 12 ∧ AW d 236 5 [l0, l1, l2, l3, l4, l5] [va_rf (mR m a 25), v1] m Q := A_getfield (f := fun m a => va_rf (mR m a 25)) hB_X12_minded dX12_minded_2 hO_X12_minded fF_12_51 rfl
theorem dX12_minded_5 : decode cX12_minded 5 = .ok (.iconst 2, 1) := by decide +kernel
theorem tX12_minded_5 {d : Nat} {l0 l1 l2 l3 l4 l5 : Option Value} {v0 v1 : Value} {m : jmM} {Q : Option Value → jmM → Prop} : AW d 236 5 [l0, l1, l2, l3, l4, l5] [v0, v1] m Q ↔ AW d 236 6 [l0, l1, l2, l3, l4, l5] [.int 2, v0, v1] m Q := A_iconst hB_X12_minded dX12_minded_5 (by decide)
theorem dX12_minded_6 : decode cX12_minded 6 = .ok (.iaload, 1) := by decide +kernel
theorem tX12_minded_6 {d : Nat} {l0 l1 l2 l3 l4 l5 : Option Value} {v2 : Value} {i : Int32} {a : Nat} {m : jmM} {Q : Option Value → jmM → Prop} : AW d 236 6 [l0, l1, l2, l3, l4, l5] [.int i, .ref a, v2] m Q ↔ (((mS m a).1 = 20 ∨ a = jScr) ∧ jIx i (mS m a).2) ∧ AW d 236 7 [l0, l1, l2, l3, l4, l5] [.int (mI m a (jx i)), v2] m Q := A_iaload hB_X12_minded dX12_minded_6
theorem dX12_minded_7 : decode cX12_minded 7 = .ok (.iadd, 1) := by decide +kernel
theorem tX12_minded_7 {d : Nat} {l0 l1 l2 l3 l4 l5 : Option Value} {x y : Int32} {m : jmM} {Q : Option Value → jmM → Prop} : AW d 236 7 [l0, l1, l2, l3, l4, l5] [.int y, .int x] m Q ↔ AW d 236 8 [l0, l1, l2, l3, l4, l5] [.int (x + y)] m Q := A_iadd hB_X12_minded dX12_minded_7
theorem dX12_minded_8 : decode cX12_minded 8 = .ok (.istore 4, 2) := by decide +kernel
theorem tX12_minded_8 {d : Nat} {l0 l1 l2 l3 l4 l5 : Option Value} {x : Int32} {m : jmM} {Q : Option Value → jmM → Prop} : AW d 236 8 [l0, l1, l2, l3, l4, l5] [.int x] m Q ↔ AW d 236 10 [l0, l1, l2, jc1 l3, some (.int x), l5] [] m Q := A_istore hB_X12_minded dX12_minded_8 (Nat.le_of_ble_eq_true rfl) rfl
theorem dX12_minded_10 : decode cX12_minded 10 = .ok (.aload_n 0, 1) := by decide +kernel
theorem tX12_minded_10 {d : Nat} {l1 l2 l3 l4 l5 : Option Value} {x : Nat} {m : jmM} {Q : Option Value → jmM → Prop} : AW d 236 10 [some (.ref x), l1, l2, l3, l4, l5] [] m Q ↔ AW d 236 11 [some (.ref x), l1, l2, l3, l4, l5] [.ref x] m Q := A_aload_n hB_X12_minded dX12_minded_10 rfl
theorem dX12_minded_11 : decode cX12_minded 11 = .ok (.iload 4, 2) := by decide +kernel
theorem tX12_minded_11 {d : Nat} {l0 l1 l2 l3 l5 : Option Value} {v0 : Value} {x : Int32} {m : jmM} {Q : Option Value → jmM → Prop} : AW d 236 11 [l0, l1, l2, l3, some (.int x), l5] [v0] m Q ↔ AW d 236 13 [l0, l1, l2, l3, some (.int x), l5] [.int x, v0] m Q := A_iload hB_X12_minded dX12_minded_11 rfl
theorem dX12_minded_13 : decode cX12_minded 13 = .ok (.iload_n 1, 1) := by decide +kernel
theorem tX12_minded_13 {d : Nat} {l0 l2 l3 l4 l5 : Option Value} {v0 v1 : Value} {x : Int32} {m : jmM} {Q : Option Value → jmM → Prop} : AW d 236 13 [l0, some (.int x), l2, l3, l4, l5] [v0, v1] m Q ↔ AW d 236 14 [l0, some (.int x), l2, l3, l4, l5] [.int x, v0, v1] m Q := A_iload_n hB_X12_minded dX12_minded_13 rfl
theorem dX12_minded_14 : decode cX12_minded 14 = .ok (.invokevirtual 306, 3) := by decide +kernel
theorem tX12_minded_14 {d : Nat} {l0 l1 l2 l3 l4 l5 : Option Value} {y0 y1 : Value} {a : Nat} {m : jmM} {Q : Option Value → jmM → Prop} : AW d 236 14 [l0, l1, l2, l3, l4, l5] [y0, y1, .ref a] m Q ↔ (mS m a).1 = 12 ∧ CC d 227 [.ref a, y1, y0] m (jK d 236 17 [l0, l1, l2, l3, l4, l5] [] Q) := A_callV hB_X12_minded dX12_minded_14 hO_X12_minded fS_12_306 ⟨Nat.le_of_ble_eq_true rfl, Nat.le_of_ble_eq_true rfl⟩ rfl rfl rfl
theorem dX12_minded_17 : decode cX12_minded 17 = .ok (.istore 5, 2) := by decide +kernel
theorem tX12_minded_17 {d : Nat} {l0 l1 l2 l3 l4 l5 : Option Value} {x : Int32} {m : jmM} {Q : Option Value → jmM → Prop} : AW d 236 17 [l0, l1, l2, l3, l4, l5] [.int x] m Q ↔ AW d 236 19 [l0, l1, l2, l3, jc1 l4, some (.int x)] [] m Q := A_istore hB_X12_minded dX12_minded_17 (Nat.le_of_ble_eq_true rfl) rfl
theorem dX12_minded_19 : decode cX12_minded 19 = .ok (.iload 5, 2) := by decide +kernel
theorem tX12_minded_19 {d : Nat} {l0 l1 l2 l3 l4 : Option Value} {x : Int32} {m : jmM} {Q : Option Value → jmM → Prop} : AW d 236 19 [l0, l1, l2, l3, l4, some (.int x)] [] m Q ↔ AW d 236 21 [l0, l1, l2, l3, l4, some (.int x)] [.int x] m Q := A_iload hB_X12_minded dX12_minded_19 rfl
theorem dX12_minded_21 : decode cX12_minded 21 = .ok (.ifCond .ge 7, 3) := by decide +kernel
theorem tX12_minded_21 {d : Nat} {l0 l1 l2 l3 l4 l5 : Option Value} {x : Int32} {m : jmM} {Q : Option Value → jmM → Prop} : AW d 236 21 [l0, l1, l2, l3, l4, l5] [.int x] m Q ↔ if 0 ≤ x then AW d 236 28 [l0, l1, l2, l3, l4, l5] [] m Q else AW d 236 24 [l0, l1, l2, l3, l4, l5] [] m Q := A_if_ge hB_X12_minded dX12_minded_21 (by decide)
theorem dX12_minded_24 : decode cX12_minded 24 = .ok (.iload_n 2, 1) := by decide +kernel
theorem tX12_minded_24 {d : Nat} {l0 l1 l3 l4 l5 : Option Value} {x : Int32} {m : jmM} {Q : Option Value → jmM → Prop} : AW d 236 24 [l0, l1, some (.int x), l3, l4, l5] [] m Q ↔ AW d 236 25 [l0, l1, some (.int x), l3, l4, l5] [.int x] m Q := A_iload_n hB_X12_minded dX12_minded_24 rfl
theorem dX12_minded_25 : decode cX12_minded 25 = .ok (.goto 34, 3) := by decide +kernel
theorem tX12_minded_25 {d : Nat} {l0 l1 l2 l3 l4 l5 : Option Value} {v0 : Value} {m : jmM} {Q : Option Value → jmM → Prop} : AW d 236 25 [l0, l1, l2, l3, l4, l5] [v0] m Q ↔ AW d 236 59 [l0, l1, l2, l3, l4, l5] [v0] m Q := A_goto hB_X12_minded dX12_minded_25 (by decide)
theorem dX12_minded_28 : decode cX12_minded 28 = .ok (.aload_n 0, 1) := by decide +kernel
theorem tX12_minded_28 {d : Nat} {l1 l2 l3 l4 l5 : Option Value} {x : Nat} {m : jmM} {Q : Option Value → jmM → Prop} : AW d 236 28 [some (.ref x), l1, l2, l3, l4, l5] [] m Q ↔ AW d 236 29 [some (.ref x), l1, l2, l3, l4, l5] [.ref x] m Q := A_aload_n hB_X12_minded dX12_minded_28 rfl
theorem dX12_minded_29 : decode cX12_minded 29 = .ok (.iload 4, 2) := by decide +kernel
theorem tX12_minded_29 {d : Nat} {l0 l1 l2 l3 l5 : Option Value} {v0 : Value} {x : Int32} {m : jmM} {Q : Option Value → jmM → Prop} : AW d 236 29 [l0, l1, l2, l3, some (.int x), l5] [v0] m Q ↔ AW d 236 31 [l0, l1, l2, l3, some (.int x), l5] [.int x, v0] m Q := A_iload hB_X12_minded dX12_minded_29 rfl
theorem dX12_minded_31 : decode cX12_minded 31 = .ok (.aload_n 0, 1) := by decide +kernel
theorem tX12_minded_31 {d : Nat} {l1 l2 l3 l4 l5 : Option Value} {v0 v1 : Value} {x : Nat} {m : jmM} {Q : Option Value → jmM → Prop} : AW d 236 31 [some (.ref x), l1, l2, l3, l4, l5] [v0, v1] m Q ↔ AW d 236 32 [some (.ref x), l1, l2, l3, l4, l5] [.ref x, v0, v1] m Q := A_aload_n hB_X12_minded dX12_minded_31 rfl
theorem dX12_minded_32 : decode cX12_minded 32 = .ok (.getfield 20, 3) := by decide +kernel
theorem tX12_minded_32 {d : Nat} {l0 l1 l2 l3 l4 l5 : Option Value} {v1 v2 : Value} {a : Nat} {m : jmM} {Q : Option Value → jmM → Prop} : AW d 236 32 [l0, l1, l2, l3, l4, l5] [.ref a, v1, v2] m Q ↔ (mS m a).1 = 12 ∧ AW d 236 35 [l0, l1, l2, l3, l4, l5] [va_rf (mR m a 4), v1, v2] m Q := A_getfield (f := fun m a => va_rf (mR m a 4)) hB_X12_minded dX12_minded_32 hO_X12_minded fF_12_20 rfl
theorem dX12_minded_35 : decode cX12_minded 35 = .ok (.iload 5, 2) := by decide +kernel
theorem tX12_minded_35 {d : Nat} {l0 l1 l2 l3 l4 : Option Value} {v0 v1 v2 : Value} {x : Int32} {m : jmM} {Q : Option Value → jmM → Prop} : AW d 236 35 [l0, l1, l2, l3, l4, some (.int x)] [v0, v1, v2] m Q ↔ AW d 236 37 [l0, l1, l2, l3, l4, some (.int x)] [.int x, v0, v1, v2] m Q := A_iload hB_X12_minded dX12_minded_35 rfl
theorem dX12_minded_37 : decode cX12_minded 37 = .ok (.iconst 1, 1) := by decide +kernel
theorem tX12_minded_37 {d : Nat} {l0 l1 l2 l3 l4 l5 : Option Value} {v0 v1 v2 v3 : Value} {m : jmM} {Q : Option Value → jmM → Prop} : AW d 236 37 [l0, l1, l2, l3, l4, l5] [v0, v1, v2, v3] m Q ↔ AW d 236 38 [l0, l1, l2, l3, l4, l5] [.int 1, v0, v1, v2, v3] m Q := A_iconst hB_X12_minded dX12_minded_37 (by decide)
theorem dX12_minded_38 : decode cX12_minded 38 = .ok (.iadd, 1) := by decide +kernel
theorem tX12_minded_38 {d : Nat} {l0 l1 l2 l3 l4 l5 : Option Value} {v2 v3 v4 : Value} {x y : Int32} {m : jmM} {Q : Option Value → jmM → Prop} : AW d 236 38 [l0, l1, l2, l3, l4, l5] [.int y, .int x, v2, v3, v4] m Q ↔ AW d 236 39 [l0, l1, l2, l3, l4, l5] [.int (x + y), v2, v3, v4] m Q := A_iadd hB_X12_minded dX12_minded_38
theorem dX12_minded_39 : decode cX12_minded 39 = .ok (.iaload, 1) := by decide +kernel
theorem tX12_minded_39 {d : Nat} {l0 l1 l2 l3 l4 l5 : Option Value} {v2 v3 : Value} {i : Int32} {a : Nat} {m : jmM} {Q : Option Value → jmM → Prop} : AW d 236 39 [l0, l1, l2, l3, l4, l5] [.int i, .ref a, v2, v3] m Q ↔ (((mS m a).1 = 20 ∨ a = jScr) ∧ jIx i (mS m a).2) ∧ AW d 236 40 [l0, l1, l2, l3, l4, l5] [.int (mI m a (jx i)), v2, v3] m Q := A_iaload hB_X12_minded dX12_minded_39
theorem dX12_minded_40 : decode cX12_minded 40 = .ok (.aload_n 0, 1) := by decide +kernel
theorem tX12_minded_40 {d : Nat} {l1 l2 l3 l4 l5 : Option Value} {v0 v1 v2 : Value} {x : Nat} {m : jmM} {Q : Option Value → jmM → Prop} : AW d 236 40 [some (.ref x), l1, l2, l3, l4, l5] [v0, v1, v2] m Q ↔ AW d 236 41 [some (.ref x), l1, l2, l3, l4, l5] [.ref x, v0, v1, v2] m Q := A_aload_n hB_X12_minded dX12_minded_40 rfl
theorem dX12_minded_41 : decode cX12_minded 41 = .ok (.getfield 20, 3) := by decide +kernel
theorem tX12_minded_41 {d : Nat} {l0 l1 l2 l3 l4 l5 : Option Value} {v1 v2 v3 : Value} {a : Nat} {m : jmM} {Q : Option Value → jmM → Prop} : AW d 236 41 [l0, l1, l2, l3, l4, l5] [.ref a, v1, v2, v3] m Q ↔ (mS m a).1 = 12 ∧ AW d 236 44 [l0, l1, l2, l3, l4, l5] [va_rf (mR m a 4), v1, v2, v3] m Q := A_getfield (f := fun m a => va_rf (mR m a 4)) hB_X12_minded dX12_minded_41 hO_X12_minded fF_12_20 rfl
theorem dX12_minded_44 : decode cX12_minded 44 = .ok (.iload 5, 2) := by decide +kernel
theorem tX12_minded_44 {d : Nat} {l0 l1 l2 l3 l4 : Option Value} {v0 v1 v2 v3 : Value} {x : Int32} {m : jmM} {Q : Option Value → jmM → Prop} : AW d 236 44 [l0, l1, l2, l3, l4, some (.int x)] [v0, v1, v2, v3] m Q ↔ AW d 236 46 [l0, l1, l2, l3, l4, some (.int x)] [.int x, v0, v1, v2, v3] m Q := A_iload hB_X12_minded dX12_minded_44 rfl
theorem dX12_minded_46 : decode cX12_minded 46 = .ok (.iconst 2, 1) := by decide +kernel
theorem tX12_minded_46 {d : Nat} {l0 l1 l2 l3 l4 l5 : Option Value} {v0 v1 v2 v3 v4 : Value} {m : jmM} {Q : Option Value → jmM → Prop} : AW d 236 46 [l0, l1, l2, l3, l4, l5] [v0, v1, v2, v3, v4] m Q ↔ AW d 236 47 [l0, l1, l2, l3, l4, l5] [.int 2, v0, v1, v2, v3, v4] m Q := A_iconst hB_X12_minded dX12_minded_46 (by decide)
theorem dX12_minded_47 : decode cX12_minded 47 = .ok (.iadd, 1) := by decide +kernel
theorem tX12_minded_47 {d : Nat} {l0 l1 l2 l3 l4 l5 : Option Value} {v2 v3 v4 v5 : Value} {x y : Int32} {m : jmM} {Q : Option Value → jmM → Prop} : AW d 236 47 [l0, l1, l2, l3, l4, l5] [.int y, .int x, v2, v3, v4, v5] m Q ↔ AW d 236 48 [l0, l1, l2, l3, l4, l5] [.int (x + y), v2, v3, v4, v5] m Q := A_iadd hB_X12_minded dX12_minded_47
theorem dX12_minded_48 : decode cX12_minded 48 = .ok (.iaload, 1) := by decide +kernel
theorem tX12_minded_48 {d : Nat} {l0 l1 l2 l3 l4 l5 : Option Value} {v2 v3 v4 : Value} {i : Int32} {a : Nat} {m : jmM} {Q : Option Value → jmM → Prop} : AW d 236 48 [l0, l1, l2, l3, l4, l5] [.int i, .ref a, v2, v3, v4] m Q ↔ (((mS m a).1 = 20 ∨ a = jScr) ∧ jIx i (mS m a).2) ∧ AW d 236 49 [l0, l1, l2, l3, l4, l5] [.int (mI m a (jx i)), v2, v3, v4] m Q := A_iaload hB_X12_minded dX12_minded_48
theorem dX12_minded_49 : decode cX12_minded 49 = .ok (.invokevirtual 275, 3) := by decide +kernel
theorem tX12_minded_49 {d : Nat} {l0 l1 l2 l3 l4 l5 : Option Value} {y0 y1 y2 : Value} {a : Nat} {m : jmM} {Q : Option Value → jmM → Prop} : AW d 236 49 [l0, l1, l2, l3, l4, l5] [y0, y1, y2, .ref a] m Q ↔ (mS m a).1 = 12 ∧ CC d 226 [.ref a, y2, y1, y0] m (jK d 236 52 [l0, l1, l2, l3, l4, l5] [] Q) := A_callV hB_X12_minded dX12_minded_49 hO_X12_minded fS_12_275 ⟨Nat.le_of_ble_eq_true rfl, Nat.le_of_ble_eq_true rfl⟩ rfl rfl rfl
theorem dX12_minded_52 : decode cX12_minded 52 = .ok (.lconst 0, 1) := by decide +kernel
theorem tX12_minded_52 {d : Nat} {l0 l1 l2 l3 l4 l5 : Option Value} {v0 : Value} {m : jmM} {Q : Option Value → jmM → Prop} : AW d 236 52 [l0, l1, l2, l3, l4, l5] [v0] m Q ↔ AW d 236 53 [l0, l1, l2, l3, l4, l5] [.long 0, v0] m Q := A_lconst hB_X12_minded dX12_minded_52 (by decide)
theorem dX12_minded_53 : decode cX12_minded 53 = .ok (.iload_n 3, 1) := by decide +kernel
theorem tX12_minded_53 {d : Nat} {l0 l1 l2 l4 l5 : Option Value} {v0 v1 : Value} {x : Int32} {m : jmM} {Q : Option Value → jmM → Prop} : AW d 236 53 [l0, l1, l2, some (.int x), l4, l5] [v0, v1] m Q ↔ AW d 236 54 [l0, l1, l2, some (.int x), l4, l5] [.int x, v0, v1] m Q := A_iload_n hB_X12_minded dX12_minded_53 rfl
theorem dX12_minded_54 : decode cX12_minded 54 = .ok (.i2l, 1) := by decide +kernel
theorem tX12_minded_54 {d : Nat} {l0 l1 l2 l3 l4 l5 : Option Value} {v1 v2 : Value} {x : Int32} {m : jmM} {Q : Option Value → jmM → Prop} : AW d 236 54 [l0, l1, l2, l3, l4, l5] [.int x, v1, v2] m Q ↔ AW d 236 55 [l0, l1, l2, l3, l4, l5] [.long x.toInt64, v1, v2] m Q := A_i2l hB_X12_minded dX12_minded_54
theorem dX12_minded_55 : decode cX12_minded 55 = .ok (.invokestatic 309, 3) := by decide +kernel
theorem tX12_minded_55 {d : Nat} {l0 l1 l2 l3 l4 l5 : Option Value} {y0 y1 y2 : Value} {m : jmM} {Q : Option Value → jmM → Prop} : AW d 236 55 [l0, l1, l2, l3, l4, l5] [y0, y1, y2] m Q ↔ CC d 190 [y2, y1, y0] m (jK d 236 58 [l0, l1, l2, l3, l4, l5] [] Q) := A_callS0 hB_X12_minded dX12_minded_55 hO_X12_minded fS_12_309 ⟨Nat.le_of_ble_eq_true rfl, Nat.le_of_ble_eq_true rfl⟩ rfl rfl
theorem dX12_minded_58 : decode cX12_minded 58 = .ok (.l2i, 1) := by decide +kernel
theorem tX12_minded_58 {d : Nat} {l0 l1 l2 l3 l4 l5 : Option Value} {x : Int64} {m : jmM} {Q : Option Value → jmM → Prop} : AW d 236 58 [l0, l1, l2, l3, l4, l5] [.long x] m Q ↔ AW d 236 59 [l0, l1, l2, l3, l4, l5] [.int x.toInt32] m Q := A_l2i hB_X12_minded dX12_minded_58
theorem dX12_minded_59 : decode cX12_minded 59 = .ok (.ireturn, 1) := by decide +kernel
theorem tX12_minded_59 {d : Nat} {l0 l1 l2 l3 l4 l5 : Option Value} {x : Int32} {m : jmM} {Q : Option Value → jmM → Prop} : AW d 236 59 [l0, l1, l2, l3, l4, l5] [.int x] m Q ↔ Q (some (.int x)) m := A_ireturn hB_X12_minded dX12_minded_59 hR_X12_minded
theorem hB_X12_widens : jB 237 = cX12_widens := rfl
theorem hO_X12_widens : jO 237 = 12 := rfl
theorem hR_X12_widens : jRt 237 = none := rfl
theorem nX12_widens (d : Nat) (x0 : Nat) (x1 : Int32) (x2 : Int32) (m : jmM) (Q : Option Value → jmM → Prop) : CC (d + 1) 237 [.ref x0, .int x1, .int x2] m Q ↔ AW d 237 0 [some (.ref x0), some (.int x1), some (.int x2), none, none, none, none, none, none] [] m Q := CC_body (Nat.le_of_ble_eq_true rfl)
theorem dX12_widens_0 : decode cX12_widens 0 = .ok (.aload_n 0, 1) := by decide +kernel
theorem tX12_widens_0 {d : Nat} {l1 l2 l3 l4 l5 l6 l7 l8 : Option Value} {x : Nat} {m : jmM} {Q : Option Value → jmM → Prop} : AW d 237 0 [some (.ref x), l1, l2, l3, l4, l5, l6, l7, l8] [] m Q ↔ AW d 237 1 [some (.ref x), l1, l2, l3, l4, l5, l6, l7, l8] [.ref x] m Q := A_aload_n hB_X12_widens dX12_widens_0 rfl
theorem dX12_widens_1 : decode cX12_widens 1 = .ok (.getfield 51, 3) := by decide +kernel
theorem tX12_widens_1 {d : Nat} {l0 l1 l2 l3 l4 l5 l6 l7 l8 : Option Value} {a : Nat} {m : jmM} {Q : Option Value → jmM → Prop} : AW d 237 1 [l0, l1, l2, l3, l4, l5, l6, l7, l8] [.ref a] m Q ↔ (mS m a).1 = 12 ∧ AW d 237 4 [l0, l1, l2, l3, l4, l5, l6, l7, l8] [va_rf (mR m a 25)] m Q := A_getfield (f := fun m a => va_rf (mR m a 25)) hB_X12_widens dX12_widens_1 hO_X12_widens fF_12_51 rfl
theorem dX12_widens_4 : decode cX12_widens 4 = .ok (.iconst 1, 1) := by decide +kernel
theorem tX12_widens_4 {d : Nat} {l0 l1 l2 l3 l4 l5 l6 l7 l8 : Option Value} {v0 : Value} {m : jmM} {Q : Option Value → jmM → Prop} : AW d 237 4 [l0, l1, l2, l3, l4, l5, l6, l7, l8] [v0] m Q ↔ AW d 237 5 [l0, l1, l2, l3, l4, l5, l6, l7, l8] [.int 1, v0] m Q := A_iconst hB_X12_widens dX12_widens_4 (by decide)
theorem dX12_widens_5 : decode cX12_widens 5 = .ok (.iaload, 1) := by decide +kernel
theorem tX12_widens_5 {d : Nat} {l0 l1 l2 l3 l4 l5 l6 l7 l8 : Option Value} {i : Int32} {a : Nat} {m : jmM} {Q : Option Value → jmM → Prop} : AW d 237 5 [l0, l1, l2, l3, l4, l5, l6, l7, l8] [.int i, .ref a] m Q ↔ (((mS m a).1 = 20 ∨ a = jScr) ∧ jIx i (mS m a).2) ∧ AW d 237 6 [l0, l1, l2, l3, l4, l5, l6, l7, l8] [.int (mI m a (jx i))] m Q := A_iaload hB_X12_widens dX12_widens_5
theorem dX12_widens_6 : decode cX12_widens 6 = .ok (.istore_n 3, 1) := by decide +kernel
theorem tX12_widens_6 {d : Nat} {l0 l1 l2 l3 l4 l5 l6 l7 l8 : Option Value} {x : Int32} {m : jmM} {Q : Option Value → jmM → Prop} : AW d 237 6 [l0, l1, l2, l3, l4, l5, l6, l7, l8] [.int x] m Q ↔ AW d 237 7 [l0, l1, jc1 l2, some (.int x), l4, l5, l6, l7, l8] [] m Q := A_istore_n hB_X12_widens dX12_widens_6 (Nat.le_of_ble_eq_true rfl) rfl
theorem dX12_widens_7 : decode cX12_widens 7 = .ok (.aload_n 0, 1) := by decide +kernel
theorem tX12_widens_7 {d : Nat} {l1 l2 l3 l4 l5 l6 l7 l8 : Option Value} {x : Nat} {m : jmM} {Q : Option Value → jmM → Prop} : AW d 237 7 [some (.ref x), l1, l2, l3, l4, l5, l6, l7, l8] [] m Q ↔ AW d 237 8 [some (.ref x), l1, l2, l3, l4, l5, l6, l7, l8] [.ref x] m Q := A_aload_n hB_X12_widens dX12_widens_7 rfl
theorem dX12_widens_8 : decode cX12_widens 8 = .ok (.getfield 42, 3) := by decide +kernel
theorem tX12_widens_8 {d : Nat} {l0 l1 l2 l3 l4 l5 l6 l7 l8 : Option Value} {a : Nat} {m : jmM} {Q : Option Value → jmM → Prop} : AW d 237 8 [l0, l1, l2, l3, l4, l5, l6, l7, l8] [.ref a] m Q ↔ (mS m a).1 = 12 ∧ AW d 237 11 [l0, l1, l2, l3, l4, l5, l6, l7, l8] [va_rf (mR m a 22)] m Q := A_getfield (f := fun m a => va_rf (mR m a 22)) hB_X12_widens dX12_widens_8 hO_X12_widens fF_12_42 rfl
theorem dX12_widens_11 : decode cX12_widens 11 = .ok (.iconst 4, 1) := by decide +kernel
theorem tX12_widens_11 {d : Nat} {l0 l1 l2 l3 l4 l5 l6 l7 l8 : Option Value} {v0 : Value} {m : jmM} {Q : Option Value → jmM → Prop} : AW d 237 11 [l0, l1, l2, l3, l4, l5, l6, l7, l8] [v0] m Q ↔ AW d 237 12 [l0, l1, l2, l3, l4, l5, l6, l7, l8] [.int 4, v0] m Q := A_iconst hB_X12_widens dX12_widens_11 (by decide)
theorem dX12_widens_12 : decode cX12_widens 12 = .ok (.iload_n 2, 1) := by decide +kernel
theorem tX12_widens_12 {d : Nat} {l0 l1 l3 l4 l5 l6 l7 l8 : Option Value} {v0 v1 : Value} {x : Int32} {m : jmM} {Q : Option Value → jmM → Prop} : AW d 237 12 [l0, l1, some (.int x), l3, l4, l5, l6, l7, l8] [v0, v1] m Q ↔ AW d 237 13 [l0, l1, some (.int x), l3, l4, l5, l6, l7, l8] [.int x, v0, v1] m Q := A_iload_n hB_X12_widens dX12_widens_12 rfl
theorem dX12_widens_13 : decode cX12_widens 13 = .ok (.i2l, 1) := by decide +kernel
theorem tX12_widens_13 {d : Nat} {l0 l1 l2 l3 l4 l5 l6 l7 l8 : Option Value} {v1 v2 : Value} {x : Int32} {m : jmM} {Q : Option Value → jmM → Prop} : AW d 237 13 [l0, l1, l2, l3, l4, l5, l6, l7, l8] [.int x, v1, v2] m Q ↔ AW d 237 14 [l0, l1, l2, l3, l4, l5, l6, l7, l8] [.long x.toInt64, v1, v2] m Q := A_i2l hB_X12_widens dX12_widens_13
theorem dX12_widens_14 : decode cX12_widens 14 = .ok (.lastore, 1) := by decide +kernel
theorem tX12_widens_14 {d : Nat} {l0 l1 l2 l3 l4 l5 l6 l7 l8 : Option Value} {x : Int64} {i : Int32} {a : Nat} {m : jmM} {Q : Option Value → jmM → Prop} : AW d 237 14 [l0, l1, l2, l3, l4, l5, l6, l7, l8] [.long x, .int i, .ref a] m Q ↔ ((mS m a).1 = 21 ∧ jIx i (mS m a).2) ∧ AW d 237 15 [l0, l1, l2, l3, l4, l5, l6, l7, l8] [] (cL m a (jup (mL m a) (jx i) x)) Q := A_lastore hB_X12_widens dX12_widens_14
theorem dX12_widens_15 : decode cX12_widens 15 = .ok (.aload_n 0, 1) := by decide +kernel
theorem tX12_widens_15 {d : Nat} {l1 l2 l3 l4 l5 l6 l7 l8 : Option Value} {x : Nat} {m : jmM} {Q : Option Value → jmM → Prop} : AW d 237 15 [some (.ref x), l1, l2, l3, l4, l5, l6, l7, l8] [] m Q ↔ AW d 237 16 [some (.ref x), l1, l2, l3, l4, l5, l6, l7, l8] [.ref x] m Q := A_aload_n hB_X12_widens dX12_widens_15 rfl
theorem dX12_widens_16 : decode cX12_widens 16 = .ok (.getfield 42, 3) := by decide +kernel
theorem tX12_widens_16 {d : Nat} {l0 l1 l2 l3 l4 l5 l6 l7 l8 : Option Value} {a : Nat} {m : jmM} {Q : Option Value → jmM → Prop} : AW d 237 16 [l0, l1, l2, l3, l4, l5, l6, l7, l8] [.ref a] m Q ↔ (mS m a).1 = 12 ∧ AW d 237 19 [l0, l1, l2, l3, l4, l5, l6, l7, l8] [va_rf (mR m a 22)] m Q := A_getfield (f := fun m a => va_rf (mR m a 22)) hB_X12_widens dX12_widens_16 hO_X12_widens fF_12_42 rfl
theorem dX12_widens_19 : decode cX12_widens 19 = .ok (.iconst 5, 1) := by decide +kernel
theorem tX12_widens_19 {d : Nat} {l0 l1 l2 l3 l4 l5 l6 l7 l8 : Option Value} {v0 : Value} {m : jmM} {Q : Option Value → jmM → Prop} : AW d 237 19 [l0, l1, l2, l3, l4, l5, l6, l7, l8] [v0] m Q ↔ AW d 237 20 [l0, l1, l2, l3, l4, l5, l6, l7, l8] [.int 5, v0] m Q := A_iconst hB_X12_widens dX12_widens_19 (by decide)
theorem dX12_widens_20 : decode cX12_widens 20 = .ok (.iload_n 1, 1) := by decide +kernel
theorem tX12_widens_20 {d : Nat} {l0 l2 l3 l4 l5 l6 l7 l8 : Option Value} {v0 v1 : Value} {x : Int32} {m : jmM} {Q : Option Value → jmM → Prop} : AW d 237 20 [l0, some (.int x), l2, l3, l4, l5, l6, l7, l8] [v0, v1] m Q ↔ AW d 237 21 [l0, some (.int x), l2, l3, l4, l5, l6, l7, l8] [.int x, v0, v1] m Q := A_iload_n hB_X12_widens dX12_widens_20 rfl
theorem dX12_widens_21 : decode cX12_widens 21 = .ok (.i2l, 1) := by decide +kernel
theorem tX12_widens_21 {d : Nat} {l0 l1 l2 l3 l4 l5 l6 l7 l8 : Option Value} {v1 v2 : Value} {x : Int32} {m : jmM} {Q : Option Value → jmM → Prop} : AW d 237 21 [l0, l1, l2, l3, l4, l5, l6, l7, l8] [.int x, v1, v2] m Q ↔ AW d 237 22 [l0, l1, l2, l3, l4, l5, l6, l7, l8] [.long x.toInt64, v1, v2] m Q := A_i2l hB_X12_widens dX12_widens_21
theorem dX12_widens_22 : decode cX12_widens 22 = .ok (.lastore, 1) := by decide +kernel
theorem tX12_widens_22 {d : Nat} {l0 l1 l2 l3 l4 l5 l6 l7 l8 : Option Value} {x : Int64} {i : Int32} {a : Nat} {m : jmM} {Q : Option Value → jmM → Prop} : AW d 237 22 [l0, l1, l2, l3, l4, l5, l6, l7, l8] [.long x, .int i, .ref a] m Q ↔ ((mS m a).1 = 21 ∧ jIx i (mS m a).2) ∧ AW d 237 23 [l0, l1, l2, l3, l4, l5, l6, l7, l8] [] (cL m a (jup (mL m a) (jx i) x)) Q := A_lastore hB_X12_widens dX12_widens_22
theorem dX12_widens_23 : decode cX12_widens 23 = .ok (.aload_n 0, 1) := by decide +kernel
theorem tX12_widens_23 {d : Nat} {l1 l2 l3 l4 l5 l6 l7 l8 : Option Value} {x : Nat} {m : jmM} {Q : Option Value → jmM → Prop} : AW d 237 23 [some (.ref x), l1, l2, l3, l4, l5, l6, l7, l8] [] m Q ↔ AW d 237 24 [some (.ref x), l1, l2, l3, l4, l5, l6, l7, l8] [.ref x] m Q := A_aload_n hB_X12_widens dX12_widens_23 rfl
theorem dX12_widens_24 : decode cX12_widens 24 = .ok (.iload_n 3, 1) := by decide +kernel
theorem tX12_widens_24 {d : Nat} {l0 l1 l2 l4 l5 l6 l7 l8 : Option Value} {v0 : Value} {x : Int32} {m : jmM} {Q : Option Value → jmM → Prop} : AW d 237 24 [l0, l1, l2, some (.int x), l4, l5, l6, l7, l8] [v0] m Q ↔ AW d 237 25 [l0, l1, l2, some (.int x), l4, l5, l6, l7, l8] [.int x, v0] m Q := A_iload_n hB_X12_widens dX12_widens_24 rfl
theorem dX12_widens_25 : decode cX12_widens 25 = .ok (.iconst 0, 1) := by decide +kernel
theorem tX12_widens_25 {d : Nat} {l0 l1 l2 l3 l4 l5 l6 l7 l8 : Option Value} {v0 v1 : Value} {m : jmM} {Q : Option Value → jmM → Prop} : AW d 237 25 [l0, l1, l2, l3, l4, l5, l6, l7, l8] [v0, v1] m Q ↔ AW d 237 26 [l0, l1, l2, l3, l4, l5, l6, l7, l8] [.int 0, v0, v1] m Q := A_iconst hB_X12_widens dX12_widens_25 (by decide)
theorem dX12_widens_26 : decode cX12_widens 26 = .ok (.invokevirtual 306, 3) := by decide +kernel
theorem tX12_widens_26 {d : Nat} {l0 l1 l2 l3 l4 l5 l6 l7 l8 : Option Value} {y0 y1 : Value} {a : Nat} {m : jmM} {Q : Option Value → jmM → Prop} : AW d 237 26 [l0, l1, l2, l3, l4, l5, l6, l7, l8] [y0, y1, .ref a] m Q ↔ (mS m a).1 = 12 ∧ CC d 227 [.ref a, y1, y0] m (jK d 237 29 [l0, l1, l2, l3, l4, l5, l6, l7, l8] [] Q) := A_callV hB_X12_widens dX12_widens_26 hO_X12_widens fS_12_306 ⟨Nat.le_of_ble_eq_true rfl, Nat.le_of_ble_eq_true rfl⟩ rfl rfl rfl
theorem dX12_widens_29 : decode cX12_widens 29 = .ok (.istore 4, 2) := by decide +kernel
theorem tX12_widens_29 {d : Nat} {l0 l1 l2 l3 l4 l5 l6 l7 l8 : Option Value} {x : Int32} {m : jmM} {Q : Option Value → jmM → Prop} : AW d 237 29 [l0, l1, l2, l3, l4, l5, l6, l7, l8] [.int x] m Q ↔ AW d 237 31 [l0, l1, l2, jc1 l3, some (.int x), l5, l6, l7, l8] [] m Q := A_istore hB_X12_widens dX12_widens_29 (Nat.le_of_ble_eq_true rfl) rfl
theorem dX12_widens_31 : decode cX12_widens 31 = .ok (.iload 4, 2) := by decide +kernel
theorem tX12_widens_31 {d : Nat} {l0 l1 l2 l3 l5 l6 l7 l8 : Option Value} {x : Int32} {m : jmM} {Q : Option Value → jmM → Prop} : AW d 237 31 [l0, l1, l2, l3, some (.int x), l5, l6, l7, l8] [] m Q ↔ AW d 237 33 [l0, l1, l2, l3, some (.int x), l5, l6, l7, l8] [.int x] m Q := A_iload hB_X12_widens dX12_widens_31 rfl
theorem dX12_widens_33 : decode cX12_widens 33 = .ok (.ifCond .ge 7, 3) := by decide +kernel
theorem tX12_widens_33 {d : Nat} {l0 l1 l2 l3 l4 l5 l6 l7 l8 : Option Value} {x : Int32} {m : jmM} {Q : Option Value → jmM → Prop} : AW d 237 33 [l0, l1, l2, l3, l4, l5, l6, l7, l8] [.int x] m Q ↔ if 0 ≤ x then AW d 237 40 [l0, l1, l2, l3, l4, l5, l6, l7, l8] [] m Q else AW d 237 36 [l0, l1, l2, l3, l4, l5, l6, l7, l8] [] m Q := A_if_ge hB_X12_widens dX12_widens_33 (by decide)
theorem dX12_widens_36 : decode cX12_widens 36 = .ok (.lconst 0, 1) := by decide +kernel
theorem tX12_widens_36 {d : Nat} {l0 l1 l2 l3 l4 l5 l6 l7 l8 : Option Value} {m : jmM} {Q : Option Value → jmM → Prop} : AW d 237 36 [l0, l1, l2, l3, l4, l5, l6, l7, l8] [] m Q ↔ AW d 237 37 [l0, l1, l2, l3, l4, l5, l6, l7, l8] [.long 0] m Q := A_lconst hB_X12_widens dX12_widens_36 (by decide)
theorem dX12_widens_37 : decode cX12_widens 37 = .ok (.goto 35, 3) := by decide +kernel
theorem tX12_widens_37 {d : Nat} {l0 l1 l2 l3 l4 l5 l6 l7 l8 : Option Value} {v0 : Value} {m : jmM} {Q : Option Value → jmM → Prop} : AW d 237 37 [l0, l1, l2, l3, l4, l5, l6, l7, l8] [v0] m Q ↔ AW d 237 72 [l0, l1, l2, l3, l4, l5, l6, l7, l8] [v0] m Q := A_goto hB_X12_widens dX12_widens_37 (by decide)
theorem dX12_widens_40 : decode cX12_widens 40 = .ok (.aload_n 0, 1) := by decide +kernel
theorem tX12_widens_40 {d : Nat} {l1 l2 l3 l4 l5 l6 l7 l8 : Option Value} {x : Nat} {m : jmM} {Q : Option Value → jmM → Prop} : AW d 237 40 [some (.ref x), l1, l2, l3, l4, l5, l6, l7, l8] [] m Q ↔ AW d 237 41 [some (.ref x), l1, l2, l3, l4, l5, l6, l7, l8] [.ref x] m Q := A_aload_n hB_X12_widens dX12_widens_40 rfl
theorem dX12_widens_41 : decode cX12_widens 41 = .ok (.iload_n 3, 1) := by decide +kernel
theorem tX12_widens_41 {d : Nat} {l0 l1 l2 l4 l5 l6 l7 l8 : Option Value} {v0 : Value} {x : Int32} {m : jmM} {Q : Option Value → jmM → Prop} : AW d 237 41 [l0, l1, l2, some (.int x), l4, l5, l6, l7, l8] [v0] m Q ↔ AW d 237 42 [l0, l1, l2, some (.int x), l4, l5, l6, l7, l8] [.int x, v0] m Q := A_iload_n hB_X12_widens dX12_widens_41 rfl
theorem dX12_widens_42 : decode cX12_widens 42 = .ok (.aload_n 0, 1) := by decide +kernel
theorem tX12_widens_42 {d : Nat} {l1 l2 l3 l4 l5 l6 l7 l8 : Option Value} {v0 v1 : Value} {x : Nat} {m : jmM} {Q : Option Value → jmM → Prop} : AW d 237 42 [some (.ref x), l1, l2, l3, l4, l5, l6, l7, l8] [v0, v1] m Q ↔ AW d 237 43 [some (.ref x), l1, l2, l3, l4, l5, l6, l7, l8] [.ref x, v0, v1] m Q := A_aload_n hB_X12_widens dX12_widens_42 rfl
theorem dX12_widens_43 : decode cX12_widens 43 = .ok (.getfield 20, 3) := by decide +kernel
theorem tX12_widens_43 {d : Nat} {l0 l1 l2 l3 l4 l5 l6 l7 l8 : Option Value} {v1 v2 : Value} {a : Nat} {m : jmM} {Q : Option Value → jmM → Prop} : AW d 237 43 [l0, l1, l2, l3, l4, l5, l6, l7, l8] [.ref a, v1, v2] m Q ↔ (mS m a).1 = 12 ∧ AW d 237 46 [l0, l1, l2, l3, l4, l5, l6, l7, l8] [va_rf (mR m a 4), v1, v2] m Q := A_getfield (f := fun m a => va_rf (mR m a 4)) hB_X12_widens dX12_widens_43 hO_X12_widens fF_12_20 rfl
theorem dX12_widens_46 : decode cX12_widens 46 = .ok (.iload 4, 2) := by decide +kernel
theorem tX12_widens_46 {d : Nat} {l0 l1 l2 l3 l5 l6 l7 l8 : Option Value} {v0 v1 v2 : Value} {x : Int32} {m : jmM} {Q : Option Value → jmM → Prop} : AW d 237 46 [l0, l1, l2, l3, some (.int x), l5, l6, l7, l8] [v0, v1, v2] m Q ↔ AW d 237 48 [l0, l1, l2, l3, some (.int x), l5, l6, l7, l8] [.int x, v0, v1, v2] m Q := A_iload hB_X12_widens dX12_widens_46 rfl
theorem dX12_widens_48 : decode cX12_widens 48 = .ok (.iconst 1, 1) := by decide +kernel
theorem tX12_widens_48 {d : Nat} {l0 l1 l2 l3 l4 l5 l6 l7 l8 : Option Value} {v0 v1 v2 v3 : Value} {m : jmM} {Q : Option Value → jmM → Prop} : AW d 237 48 [l0, l1, l2, l3, l4, l5, l6, l7, l8] [v0, v1, v2, v3] m Q ↔ AW d 237 49 [l0, l1, l2, l3, l4, l5, l6, l7, l8] [.int 1, v0, v1, v2, v3] m Q := A_iconst hB_X12_widens dX12_widens_48 (by decide)
theorem dX12_widens_49 : decode cX12_widens 49 = .ok (.iadd, 1) := by decide +kernel
theorem tX12_widens_49 {d : Nat} {l0 l1 l2 l3 l4 l5 l6 l7 l8 : Option Value} {v2 v3 v4 : Value} {x y : Int32} {m : jmM} {Q : Option Value → jmM → Prop} : AW d 237 49 [l0, l1, l2, l3, l4, l5, l6, l7, l8] [.int y, .int x, v2, v3, v4] m Q ↔ AW d 237 50 [l0, l1, l2, l3, l4, l5, l6, l7, l8] [.int (x + y), v2, v3, v4] m Q := A_iadd hB_X12_widens dX12_widens_49
theorem dX12_widens_50 : decode cX12_widens 50 = .ok (.iaload, 1) := by decide +kernel
theorem tX12_widens_50 {d : Nat} {l0 l1 l2 l3 l4 l5 l6 l7 l8 : Option Value} {v2 v3 : Value} {i : Int32} {a : Nat} {m : jmM} {Q : Option Value → jmM → Prop} : AW d 237 50 [l0, l1, l2, l3, l4, l5, l6, l7, l8] [.int i, .ref a, v2, v3] m Q ↔ (((mS m a).1 = 20 ∨ a = jScr) ∧ jIx i (mS m a).2) ∧ AW d 237 51 [l0, l1, l2, l3, l4, l5, l6, l7, l8] [.int (mI m a (jx i)), v2, v3] m Q := A_iaload hB_X12_widens dX12_widens_50
theorem dX12_widens_51 : decode cX12_widens 51 = .ok (.aload_n 0, 1) := by decide +kernel
theorem tX12_widens_51 {d : Nat} {l1 l2 l3 l4 l5 l6 l7 l8 : Option Value} {v0 v1 v2 : Value} {x : Nat} {m : jmM} {Q : Option Value → jmM → Prop} : AW d 237 51 [some (.ref x), l1, l2, l3, l4, l5, l6, l7, l8] [v0, v1, v2] m Q ↔ AW d 237 52 [some (.ref x), l1, l2, l3, l4, l5, l6, l7, l8] [.ref x, v0, v1, v2] m Q := A_aload_n hB_X12_widens dX12_widens_51 rfl
theorem dX12_widens_52 : decode cX12_widens 52 = .ok (.getfield 20, 3) := by decide +kernel
theorem tX12_widens_52 {d : Nat} {l0 l1 l2 l3 l4 l5 l6 l7 l8 : Option Value} {v1 v2 v3 : Value} {a : Nat} {m : jmM} {Q : Option Value → jmM → Prop} : AW d 237 52 [l0, l1, l2, l3, l4, l5, l6, l7, l8] [.ref a, v1, v2, v3] m Q ↔ (mS m a).1 = 12 ∧ AW d 237 55 [l0, l1, l2, l3, l4, l5, l6, l7, l8] [va_rf (mR m a 4), v1, v2, v3] m Q := A_getfield (f := fun m a => va_rf (mR m a 4)) hB_X12_widens dX12_widens_52 hO_X12_widens fF_12_20 rfl
theorem dX12_widens_55 : decode cX12_widens 55 = .ok (.iload 4, 2) := by decide +kernel
theorem tX12_widens_55 {d : Nat} {l0 l1 l2 l3 l5 l6 l7 l8 : Option Value} {v0 v1 v2 v3 : Value} {x : Int32} {m : jmM} {Q : Option Value → jmM → Prop} : AW d 237 55 [l0, l1, l2, l3, some (.int x), l5, l6, l7, l8] [v0, v1, v2, v3] m Q ↔ AW d 237 57 [l0, l1, l2, l3, some (.int x), l5, l6, l7, l8] [.int x, v0, v1, v2, v3] m Q := A_iload hB_X12_widens dX12_widens_55 rfl
theorem dX12_widens_57 : decode cX12_widens 57 = .ok (.iconst 2, 1) := by decide +kernel
theorem tX12_widens_57 {d : Nat} {l0 l1 l2 l3 l4 l5 l6 l7 l8 : Option Value} {v0 v1 v2 v3 v4 : Value} {m : jmM} {Q : Option Value → jmM → Prop} : AW d 237 57 [l0, l1, l2, l3, l4, l5, l6, l7, l8] [v0, v1, v2, v3, v4] m Q ↔ AW d 237 58 [l0, l1, l2, l3, l4, l5, l6, l7, l8] [.int 2, v0, v1, v2, v3, v4] m Q := A_iconst hB_X12_widens dX12_widens_57 (by decide)
theorem dX12_widens_58 : decode cX12_widens 58 = .ok (.iadd, 1) := by decide +kernel
theorem tX12_widens_58 {d : Nat} {l0 l1 l2 l3 l4 l5 l6 l7 l8 : Option Value} {v2 v3 v4 v5 : Value} {x y : Int32} {m : jmM} {Q : Option Value → jmM → Prop} : AW d 237 58 [l0, l1, l2, l3, l4, l5, l6, l7, l8] [.int y, .int x, v2, v3, v4, v5] m Q ↔ AW d 237 59 [l0, l1, l2, l3, l4, l5, l6, l7, l8] [.int (x + y), v2, v3, v4, v5] m Q := A_iadd hB_X12_widens dX12_widens_58
theorem dX12_widens_59 : decode cX12_widens 59 = .ok (.iaload, 1) := by decide +kernel
theorem tX12_widens_59 {d : Nat} {l0 l1 l2 l3 l4 l5 l6 l7 l8 : Option Value} {v2 v3 v4 : Value} {i : Int32} {a : Nat} {m : jmM} {Q : Option Value → jmM → Prop} : AW d 237 59 [l0, l1, l2, l3, l4, l5, l6, l7, l8] [.int i, .ref a, v2, v3, v4] m Q ↔ (((mS m a).1 = 20 ∨ a = jScr) ∧ jIx i (mS m a).2) ∧ AW d 237 60 [l0, l1, l2, l3, l4, l5, l6, l7, l8] [.int (mI m a (jx i)), v2, v3, v4] m Q := A_iaload hB_X12_widens dX12_widens_59
theorem dX12_widens_60 : decode cX12_widens 60 = .ok (.invokevirtual 275, 3) := by decide +kernel
theorem tX12_widens_60 {d : Nat} {l0 l1 l2 l3 l4 l5 l6 l7 l8 : Option Value} {y0 y1 y2 : Value} {a : Nat} {m : jmM} {Q : Option Value → jmM → Prop} : AW d 237 60 [l0, l1, l2, l3, l4, l5, l6, l7, l8] [y0, y1, y2, .ref a] m Q ↔ (mS m a).1 = 12 ∧ CC d 226 [.ref a, y2, y1, y0] m (jK d 237 63 [l0, l1, l2, l3, l4, l5, l6, l7, l8] [] Q) := A_callV hB_X12_widens dX12_widens_60 hO_X12_widens fS_12_275 ⟨Nat.le_of_ble_eq_true rfl, Nat.le_of_ble_eq_true rfl⟩ rfl rfl rfl
theorem dX12_widens_63 : decode cX12_widens 63 = .ok (.ldc2_w 313, 3) := by decide +kernel
theorem tX12_widens_63 {d : Nat} {l0 l1 l2 l3 l4 l5 l6 l7 l8 : Option Value} {v0 : Value} {m : jmM} {Q : Option Value → jmM → Prop} : AW d 237 63 [l0, l1, l2, l3, l4, l5, l6, l7, l8] [v0] m Q ↔ AW d 237 66 [l0, l1, l2, l3, l4, l5, l6, l7, l8] [.long (-9999), v0] m Q := A_ldc2_w hB_X12_widens dX12_widens_63 hO_X12_widens fL2_12_313
theorem dX12_widens_66 : decode cX12_widens 66 = .ok (.ldc2_w 291, 3) := by decide +kernel
theorem tX12_widens_66 {d : Nat} {l0 l1 l2 l3 l4 l5 l6 l7 l8 : Option Value} {v0 v1 : Value} {m : jmM} {Q : Option Value → jmM → Prop} : AW d 237 66 [l0, l1, l2, l3, l4, l5, l6, l7, l8] [v0, v1] m Q ↔ AW d 237 69 [l0, l1, l2, l3, l4, l5, l6, l7, l8] [.long 9999, v0, v1] m Q := A_ldc2_w hB_X12_widens dX12_widens_66 hO_X12_widens fL2_12_291
theorem dX12_widens_69 : decode cX12_widens 69 = .ok (.invokestatic 309, 3) := by decide +kernel
theorem tX12_widens_69 {d : Nat} {l0 l1 l2 l3 l4 l5 l6 l7 l8 : Option Value} {y0 y1 y2 : Value} {m : jmM} {Q : Option Value → jmM → Prop} : AW d 237 69 [l0, l1, l2, l3, l4, l5, l6, l7, l8] [y0, y1, y2] m Q ↔ CC d 190 [y2, y1, y0] m (jK d 237 72 [l0, l1, l2, l3, l4, l5, l6, l7, l8] [] Q) := A_callS0 hB_X12_widens dX12_widens_69 hO_X12_widens fS_12_309 ⟨Nat.le_of_ble_eq_true rfl, Nat.le_of_ble_eq_true rfl⟩ rfl rfl
theorem dX12_widens_72 : decode cX12_widens 72 = .ok (.lstore 5, 2) := by decide +kernel
theorem tX12_widens_72 {d : Nat} {l0 l1 l2 l3 l4 l5 l6 l7 l8 : Option Value} {x : Int64} {m : jmM} {Q : Option Value → jmM → Prop} : AW d 237 72 [l0, l1, l2, l3, l4, l5, l6, l7, l8] [.long x] m Q ↔ AW d 237 74 [l0, l1, l2, l3, jc1 l4, some (.long x), none, l7, l8] [] m Q := A_lstore hB_X12_widens dX12_widens_72 (Nat.le_of_ble_eq_true rfl) rfl
theorem dX12_widens_74 : decode cX12_widens 74 = .ok (.aload_n 0, 1) := by decide +kernel
theorem tX12_widens_74 {d : Nat} {l1 l2 l3 l4 l5 l6 l7 l8 : Option Value} {x : Nat} {m : jmM} {Q : Option Value → jmM → Prop} : AW d 237 74 [some (.ref x), l1, l2, l3, l4, l5, l6, l7, l8] [] m Q ↔ AW d 237 75 [some (.ref x), l1, l2, l3, l4, l5, l6, l7, l8] [.ref x] m Q := A_aload_n hB_X12_widens dX12_widens_74 rfl
theorem dX12_widens_75 : decode cX12_widens 75 = .ok (.getfield 51, 3) := by decide +kernel
theorem tX12_widens_75 {d : Nat} {l0 l1 l2 l3 l4 l5 l6 l7 l8 : Option Value} {a : Nat} {m : jmM} {Q : Option Value → jmM → Prop} : AW d 237 75 [l0, l1, l2, l3, l4, l5, l6, l7, l8] [.ref a] m Q ↔ (mS m a).1 = 12 ∧ AW d 237 78 [l0, l1, l2, l3, l4, l5, l6, l7, l8] [va_rf (mR m a 25)] m Q := A_getfield (f := fun m a => va_rf (mR m a 25)) hB_X12_widens dX12_widens_75 hO_X12_widens fF_12_51 rfl
theorem dX12_widens_78 : decode cX12_widens 78 = .ok (.bipush 16, 2) := by decide +kernel
theorem tX12_widens_78 {d : Nat} {l0 l1 l2 l3 l4 l5 l6 l7 l8 : Option Value} {v0 : Value} {m : jmM} {Q : Option Value → jmM → Prop} : AW d 237 78 [l0, l1, l2, l3, l4, l5, l6, l7, l8] [v0] m Q ↔ AW d 237 80 [l0, l1, l2, l3, l4, l5, l6, l7, l8] [.int 16, v0] m Q := A_bipush hB_X12_widens dX12_widens_78 rfl
theorem dX12_widens_80 : decode cX12_widens 80 = .ok (.iaload, 1) := by decide +kernel
theorem tX12_widens_80 {d : Nat} {l0 l1 l2 l3 l4 l5 l6 l7 l8 : Option Value} {i : Int32} {a : Nat} {m : jmM} {Q : Option Value → jmM → Prop} : AW d 237 80 [l0, l1, l2, l3, l4, l5, l6, l7, l8] [.int i, .ref a] m Q ↔ (((mS m a).1 = 20 ∨ a = jScr) ∧ jIx i (mS m a).2) ∧ AW d 237 81 [l0, l1, l2, l3, l4, l5, l6, l7, l8] [.int (mI m a (jx i))] m Q := A_iaload hB_X12_widens dX12_widens_80
theorem dX12_widens_81 : decode cX12_widens 81 = .ok (.i2l, 1) := by decide +kernel
theorem tX12_widens_81 {d : Nat} {l0 l1 l2 l3 l4 l5 l6 l7 l8 : Option Value} {x : Int32} {m : jmM} {Q : Option Value → jmM → Prop} : AW d 237 81 [l0, l1, l2, l3, l4, l5, l6, l7, l8] [.int x] m Q ↔ AW d 237 82 [l0, l1, l2, l3, l4, l5, l6, l7, l8] [.long x.toInt64] m Q := A_i2l hB_X12_widens dX12_widens_81
theorem dX12_widens_82 : decode cX12_widens 82 = .ok (.ldc2_w 315, 3) := by decide +kernel
theorem tX12_widens_82 {d : Nat} {l0 l1 l2 l3 l4 l5 l6 l7 l8 : Option Value} {v0 : Value} {m : jmM} {Q : Option Value → jmM → Prop} : AW d 237 82 [l0, l1, l2, l3, l4, l5, l6, l7, l8] [v0] m Q ↔ AW d 237 85 [l0, l1, l2, l3, l4, l5, l6, l7, l8] [.long 1103515245, v0] m Q := A_ldc2_w hB_X12_widens dX12_widens_82 hO_X12_widens fL2_12_315
theorem dX12_widens_85 : decode cX12_widens 85 = .ok (.lmul, 1) := by decide +kernel
theorem tX12_widens_85 {d : Nat} {l0 l1 l2 l3 l4 l5 l6 l7 l8 : Option Value} {x y : Int64} {m : jmM} {Q : Option Value → jmM → Prop} : AW d 237 85 [l0, l1, l2, l3, l4, l5, l6, l7, l8] [.long y, .long x] m Q ↔ AW d 237 86 [l0, l1, l2, l3, l4, l5, l6, l7, l8] [.long (x * y)] m Q := A_lmul hB_X12_widens dX12_widens_85
theorem dX12_widens_86 : decode cX12_widens 86 = .ok (.ldc2_w 317, 3) := by decide +kernel
theorem tX12_widens_86 {d : Nat} {l0 l1 l2 l3 l4 l5 l6 l7 l8 : Option Value} {v0 : Value} {m : jmM} {Q : Option Value → jmM → Prop} : AW d 237 86 [l0, l1, l2, l3, l4, l5, l6, l7, l8] [v0] m Q ↔ AW d 237 89 [l0, l1, l2, l3, l4, l5, l6, l7, l8] [.long 12345, v0] m Q := A_ldc2_w hB_X12_widens dX12_widens_86 hO_X12_widens fL2_12_317
theorem dX12_widens_89 : decode cX12_widens 89 = .ok (.ladd, 1) := by decide +kernel
theorem tX12_widens_89 {d : Nat} {l0 l1 l2 l3 l4 l5 l6 l7 l8 : Option Value} {x y : Int64} {m : jmM} {Q : Option Value → jmM → Prop} : AW d 237 89 [l0, l1, l2, l3, l4, l5, l6, l7, l8] [.long y, .long x] m Q ↔ AW d 237 90 [l0, l1, l2, l3, l4, l5, l6, l7, l8] [.long (x + y)] m Q := A_ladd hB_X12_widens dX12_widens_89
theorem dX12_widens_90 : decode cX12_widens 90 = .ok (.ldc2_w 319, 3) := by decide +kernel
theorem tX12_widens_90 {d : Nat} {l0 l1 l2 l3 l4 l5 l6 l7 l8 : Option Value} {v0 : Value} {m : jmM} {Q : Option Value → jmM → Prop} : AW d 237 90 [l0, l1, l2, l3, l4, l5, l6, l7, l8] [v0] m Q ↔ AW d 237 93 [l0, l1, l2, l3, l4, l5, l6, l7, l8] [.long 2147483648, v0] m Q := A_ldc2_w hB_X12_widens dX12_widens_90 hO_X12_widens fL2_12_319
theorem dX12_widens_93 : decode cX12_widens 93 = .ok (.lrem, 1) := by decide +kernel
theorem tX12_widens_93 {d : Nat} {l0 l1 l2 l3 l4 l5 l6 l7 l8 : Option Value} {x y : Int64} {m : jmM} {Q : Option Value → jmM → Prop} : AW d 237 93 [l0, l1, l2, l3, l4, l5, l6, l7, l8] [.long y, .long x] m Q ↔ ¬ y = 0 ∧ AW d 237 94 [l0, l1, l2, l3, l4, l5, l6, l7, l8] [.long (x - x / y * y)] m Q := A_lrem hB_X12_widens dX12_widens_93
theorem dX12_widens_94 : decode cX12_widens 94 = .ok (.lstore 7, 2) := by decide +kernel
theorem tX12_widens_94 {d : Nat} {l0 l1 l2 l3 l4 l5 l6 l7 l8 : Option Value} {x : Int64} {m : jmM} {Q : Option Value → jmM → Prop} : AW d 237 94 [l0, l1, l2, l3, l4, l5, l6, l7, l8] [.long x] m Q ↔ AW d 237 96 [l0, l1, l2, l3, l4, l5, jc1 l6, some (.long x), none] [] m Q := A_lstore hB_X12_widens dX12_widens_94 (Nat.le_of_ble_eq_true rfl) rfl
theorem dX12_widens_96 : decode cX12_widens 96 = .ok (.aload_n 0, 1) := by decide +kernel
theorem tX12_widens_96 {d : Nat} {l1 l2 l3 l4 l5 l6 l7 l8 : Option Value} {x : Nat} {m : jmM} {Q : Option Value → jmM → Prop} : AW d 237 96 [some (.ref x), l1, l2, l3, l4, l5, l6, l7, l8] [] m Q ↔ AW d 237 97 [some (.ref x), l1, l2, l3, l4, l5, l6, l7, l8] [.ref x] m Q := A_aload_n hB_X12_widens dX12_widens_96 rfl
theorem dX12_widens_97 : decode cX12_widens 97 = .ok (.getfield 51, 3) := by decide +kernel
theorem tX12_widens_97 {d : Nat} {l0 l1 l2 l3 l4 l5 l6 l7 l8 : Option Value} {a : Nat} {m : jmM} {Q : Option Value → jmM → Prop} : AW d 237 97 [l0, l1, l2, l3, l4, l5, l6, l7, l8] [.ref a] m Q ↔ (mS m a).1 = 12 ∧ AW d 237 100 [l0, l1, l2, l3, l4, l5, l6, l7, l8] [va_rf (mR m a 25)] m Q := A_getfield (f := fun m a => va_rf (mR m a 25)) hB_X12_widens dX12_widens_97 hO_X12_widens fF_12_51 rfl
theorem dX12_widens_100 : decode cX12_widens 100 = .ok (.bipush 16, 2) := by decide +kernel
theorem tX12_widens_100 {d : Nat} {l0 l1 l2 l3 l4 l5 l6 l7 l8 : Option Value} {v0 : Value} {m : jmM} {Q : Option Value → jmM → Prop} : AW d 237 100 [l0, l1, l2, l3, l4, l5, l6, l7, l8] [v0] m Q ↔ AW d 237 102 [l0, l1, l2, l3, l4, l5, l6, l7, l8] [.int 16, v0] m Q := A_bipush hB_X12_widens dX12_widens_100 rfl
theorem dX12_widens_102 : decode cX12_widens 102 = .ok (.lload 7, 2) := by decide +kernel
theorem tX12_widens_102 {d : Nat} {l0 l1 l2 l3 l4 l5 l6 l8 : Option Value} {v0 v1 : Value} {x : Int64} {m : jmM} {Q : Option Value → jmM → Prop} : AW d 237 102 [l0, l1, l2, l3, l4, l5, l6, some (.long x), l8] [v0, v1] m Q ↔ AW d 237 104 [l0, l1, l2, l3, l4, l5, l6, some (.long x), l8] [.long x, v0, v1] m Q := A_lload hB_X12_widens dX12_widens_102 rfl
theorem dX12_widens_104 : decode cX12_widens 104 = .ok (.l2i, 1) := by decide +kernel
theorem tX12_widens_104 {d : Nat} {l0 l1 l2 l3 l4 l5 l6 l7 l8 : Option Value} {v1 v2 : Value} {x : Int64} {m : jmM} {Q : Option Value → jmM → Prop} : AW d 237 104 [l0, l1, l2, l3, l4, l5, l6, l7, l8] [.long x, v1, v2] m Q ↔ AW d 237 105 [l0, l1, l2, l3, l4, l5, l6, l7, l8] [.int x.toInt32, v1, v2] m Q := A_l2i hB_X12_widens dX12_widens_104
theorem dX12_widens_105 : decode cX12_widens 105 = .ok (.iastore, 1) := by decide +kernel
theorem tX12_widens_105 {d : Nat} {l0 l1 l2 l3 l4 l5 l6 l7 l8 : Option Value} {x i : Int32} {a : Nat} {m : jmM} {Q : Option Value → jmM → Prop} : AW d 237 105 [l0, l1, l2, l3, l4, l5, l6, l7, l8] [.int x, .int i, .ref a] m Q ↔ ((mS m a).1 = 20 ∧ jIx i (mS m a).2) ∧ AW d 237 106 [l0, l1, l2, l3, l4, l5, l6, l7, l8] [] (cI m a (jup (mI m a) (jx i) x)) Q := A_iastore hB_X12_widens dX12_widens_105
theorem dX12_widens_106 : decode cX12_widens 106 = .ok (.aload_n 0, 1) := by decide +kernel
theorem tX12_widens_106 {d : Nat} {l1 l2 l3 l4 l5 l6 l7 l8 : Option Value} {x : Nat} {m : jmM} {Q : Option Value → jmM → Prop} : AW d 237 106 [some (.ref x), l1, l2, l3, l4, l5, l6, l7, l8] [] m Q ↔ AW d 237 107 [some (.ref x), l1, l2, l3, l4, l5, l6, l7, l8] [.ref x] m Q := A_aload_n hB_X12_widens dX12_widens_106 rfl
theorem dX12_widens_107 : decode cX12_widens 107 = .ok (.getfield 51, 3) := by decide +kernel
theorem tX12_widens_107 {d : Nat} {l0 l1 l2 l3 l4 l5 l6 l7 l8 : Option Value} {a : Nat} {m : jmM} {Q : Option Value → jmM → Prop} : AW d 237 107 [l0, l1, l2, l3, l4, l5, l6, l7, l8] [.ref a] m Q ↔ (mS m a).1 = 12 ∧ AW d 237 110 [l0, l1, l2, l3, l4, l5, l6, l7, l8] [va_rf (mR m a 25)] m Q := A_getfield (f := fun m a => va_rf (mR m a 25)) hB_X12_widens dX12_widens_107 hO_X12_widens fF_12_51 rfl
theorem dX12_widens_110 : decode cX12_widens 110 = .ok (.bipush 10, 2) := by decide +kernel
theorem tX12_widens_110 {d : Nat} {l0 l1 l2 l3 l4 l5 l6 l7 l8 : Option Value} {v0 : Value} {m : jmM} {Q : Option Value → jmM → Prop} : AW d 237 110 [l0, l1, l2, l3, l4, l5, l6, l7, l8] [v0] m Q ↔ AW d 237 112 [l0, l1, l2, l3, l4, l5, l6, l7, l8] [.int 10, v0] m Q := A_bipush hB_X12_widens dX12_widens_110 rfl
theorem dX12_widens_112 : decode cX12_widens 112 = .ok (.aload_n 0, 1) := by decide +kernel
theorem tX12_widens_112 {d : Nat} {l1 l2 l3 l4 l5 l6 l7 l8 : Option Value} {v0 v1 : Value} {x : Nat} {m : jmM} {Q : Option Value → jmM → Prop} : AW d 237 112 [some (.ref x), l1, l2, l3, l4, l5, l6, l7, l8] [v0, v1] m Q ↔ AW d 237 113 [some (.ref x), l1, l2, l3, l4, l5, l6, l7, l8] [.ref x, v0, v1] m Q := A_aload_n hB_X12_widens dX12_widens_112 rfl
theorem dX12_widens_113 : decode cX12_widens 113 = .ok (.getfield 51, 3) := by decide +kernel
theorem tX12_widens_113 {d : Nat} {l0 l1 l2 l3 l4 l5 l6 l7 l8 : Option Value} {v1 v2 : Value} {a : Nat} {m : jmM} {Q : Option Value → jmM → Prop} : AW d 237 113 [l0, l1, l2, l3, l4, l5, l6, l7, l8] [.ref a, v1, v2] m Q ↔ (mS m a).1 = 12 ∧ AW d 237 116 [l0, l1, l2, l3, l4, l5, l6, l7, l8] [va_rf (mR m a 25), v1, v2] m Q := A_getfield (f := fun m a => va_rf (mR m a 25)) hB_X12_widens dX12_widens_113 hO_X12_widens fF_12_51 rfl
theorem dX12_widens_116 : decode cX12_widens 116 = .ok (.bipush 10, 2) := by decide +kernel
theorem tX12_widens_116 {d : Nat} {l0 l1 l2 l3 l4 l5 l6 l7 l8 : Option Value} {v0 v1 v2 : Value} {m : jmM} {Q : Option Value → jmM → Prop} : AW d 237 116 [l0, l1, l2, l3, l4, l5, l6, l7, l8] [v0, v1, v2] m Q ↔ AW d 237 118 [l0, l1, l2, l3, l4, l5, l6, l7, l8] [.int 10, v0, v1, v2] m Q := A_bipush hB_X12_widens dX12_widens_116 rfl
theorem dX12_widens_118 : decode cX12_widens 118 = .ok (.iaload, 1) := by decide +kernel
theorem tX12_widens_118 {d : Nat} {l0 l1 l2 l3 l4 l5 l6 l7 l8 : Option Value} {v2 v3 : Value} {i : Int32} {a : Nat} {m : jmM} {Q : Option Value → jmM → Prop} : AW d 237 118 [l0, l1, l2, l3, l4, l5, l6, l7, l8] [.int i, .ref a, v2, v3] m Q ↔ (((mS m a).1 = 20 ∨ a = jScr) ∧ jIx i (mS m a).2) ∧ AW d 237 119 [l0, l1, l2, l3, l4, l5, l6, l7, l8] [.int (mI m a (jx i)), v2, v3] m Q := A_iaload hB_X12_widens dX12_widens_118
theorem dX12_widens_119 : decode cX12_widens 119 = .ok (.i2l, 1) := by decide +kernel
theorem tX12_widens_119 {d : Nat} {l0 l1 l2 l3 l4 l5 l6 l7 l8 : Option Value} {v1 v2 : Value} {x : Int32} {m : jmM} {Q : Option Value → jmM → Prop} : AW d 237 119 [l0, l1, l2, l3, l4, l5, l6, l7, l8] [.int x, v1, v2] m Q ↔ AW d 237 120 [l0, l1, l2, l3, l4, l5, l6, l7, l8] [.long x.toInt64, v1, v2] m Q := A_i2l hB_X12_widens dX12_widens_119
theorem dX12_widens_120 : decode cX12_widens 120 = .ok (.lload 5, 2) := by decide +kernel
theorem tX12_widens_120 {d : Nat} {l0 l1 l2 l3 l4 l6 l7 l8 : Option Value} {v0 v1 v2 : Value} {x : Int64} {m : jmM} {Q : Option Value → jmM → Prop} : AW d 237 120 [l0, l1, l2, l3, l4, some (.long x), l6, l7, l8] [v0, v1, v2] m Q ↔ AW d 237 122 [l0, l1, l2, l3, l4, some (.long x), l6, l7, l8] [.long x, v0, v1, v2] m Q := A_lload hB_X12_widens dX12_widens_120 rfl
theorem dX12_widens_122 : decode cX12_widens 122 = .ok (.ladd, 1) := by decide +kernel
theorem tX12_widens_122 {d : Nat} {l0 l1 l2 l3 l4 l5 l6 l7 l8 : Option Value} {v2 v3 : Value} {x y : Int64} {m : jmM} {Q : Option Value → jmM → Prop} : AW d 237 122 [l0, l1, l2, l3, l4, l5, l6, l7, l8] [.long y, .long x, v2, v3] m Q ↔ AW d 237 123 [l0, l1, l2, l3, l4, l5, l6, l7, l8] [.long (x + y), v2, v3] m Q := A_ladd hB_X12_widens dX12_widens_122
theorem dX12_widens_123 : decode cX12_widens 123 = .ok (.lload 7, 2) := by decide +kernel
theorem tX12_widens_123 {d : Nat} {l0 l1 l2 l3 l4 l5 l6 l8 : Option Value} {v0 v1 v2 : Value} {x : Int64} {m : jmM} {Q : Option Value → jmM → Prop} : AW d 237 123 [l0, l1, l2, l3, l4, l5, l6, some (.long x), l8] [v0, v1, v2] m Q ↔ AW d 237 125 [l0, l1, l2, l3, l4, l5, l6, some (.long x), l8] [.long x, v0, v1, v2] m Q := A_lload hB_X12_widens dX12_widens_123 rfl
theorem dX12_widens_125 : decode cX12_widens 125 = .ok (.ldc2_w 321, 3) := by decide +kernel
theorem tX12_widens_125 {d : Nat} {l0 l1 l2 l3 l4 l5 l6 l7 l8 : Option Value} {v0 v1 v2 v3 : Value} {m : jmM} {Q : Option Value → jmM → Prop} : AW d 237 125 [l0, l1, l2, l3, l4, l5, l6, l7, l8] [v0, v1, v2, v3] m Q ↔ AW d 237 128 [l0, l1, l2, l3, l4, l5, l6, l7, l8] [.long 65536, v0, v1, v2, v3] m Q := A_ldc2_w hB_X12_widens dX12_widens_125 hO_X12_widens fL2_12_321
theorem dX12_widens_128 : decode cX12_widens 128 = .ok (.ldiv, 1) := by decide +kernel
theorem tX12_widens_128 {d : Nat} {l0 l1 l2 l3 l4 l5 l6 l7 l8 : Option Value} {v2 v3 v4 : Value} {x y : Int64} {m : jmM} {Q : Option Value → jmM → Prop} : AW d 237 128 [l0, l1, l2, l3, l4, l5, l6, l7, l8] [.long y, .long x, v2, v3, v4] m Q ↔ ¬ y = 0 ∧ AW d 237 129 [l0, l1, l2, l3, l4, l5, l6, l7, l8] [.long (x / y), v2, v3, v4] m Q := A_ldiv hB_X12_widens dX12_widens_128
theorem dX12_widens_129 : decode cX12_widens 129 = .ok (.ldc2_w 323, 3) := by decide +kernel
theorem tX12_widens_129 {d : Nat} {l0 l1 l2 l3 l4 l5 l6 l7 l8 : Option Value} {v0 v1 v2 v3 : Value} {m : jmM} {Q : Option Value → jmM → Prop} : AW d 237 129 [l0, l1, l2, l3, l4, l5, l6, l7, l8] [v0, v1, v2, v3] m Q ↔ AW d 237 132 [l0, l1, l2, l3, l4, l5, l6, l7, l8] [.long 2, v0, v1, v2, v3] m Q := A_ldc2_w hB_X12_widens dX12_widens_129 hO_X12_widens fL2_12_323
theorem dX12_widens_132 : decode cX12_widens 132 = .ok (.aload_n 0, 1) := by decide +kernel
theorem tX12_widens_132 {d : Nat} {l1 l2 l3 l4 l5 l6 l7 l8 : Option Value} {v0 v1 v2 v3 v4 : Value} {x : Nat} {m : jmM} {Q : Option Value → jmM → Prop} : AW d 237 132 [some (.ref x), l1, l2, l3, l4, l5, l6, l7, l8] [v0, v1, v2, v3, v4] m Q ↔ AW d 237 133 [some (.ref x), l1, l2, l3, l4, l5, l6, l7, l8] [.ref x, v0, v1, v2, v3, v4] m Q := A_aload_n hB_X12_widens dX12_widens_132 rfl
theorem dX12_widens_133 : decode cX12_widens 133 = .ok (.getfield 26, 3) := by decide +kernel
theorem tX12_widens_133 {d : Nat} {l0 l1 l2 l3 l4 l5 l6 l7 l8 : Option Value} {v1 v2 v3 v4 v5 : Value} {a : Nat} {m : jmM} {Q : Option Value → jmM → Prop} : AW d 237 133 [l0, l1, l2, l3, l4, l5, l6, l7, l8] [.ref a, v1, v2, v3, v4, v5] m Q ↔ (mS m a).1 = 12 ∧ AW d 237 136 [l0, l1, l2, l3, l4, l5, l6, l7, l8] [va_rf (mR m a 6), v1, v2, v3, v4, v5] m Q := A_getfield (f := fun m a => va_rf (mR m a 6)) hB_X12_widens dX12_widens_133 hO_X12_widens fF_12_26 rfl
theorem dX12_widens_136 : decode cX12_widens 136 = .ok (.iload_n 3, 1) := by decide +kernel
theorem tX12_widens_136 {d : Nat} {l0 l1 l2 l4 l5 l6 l7 l8 : Option Value} {v0 v1 v2 v3 v4 v5 : Value} {x : Int32} {m : jmM} {Q : Option Value → jmM → Prop} : AW d 237 136 [l0, l1, l2, some (.int x), l4, l5, l6, l7, l8] [v0, v1, v2, v3, v4, v5] m Q ↔ AW d 237 137 [l0, l1, l2, some (.int x), l4, l5, l6, l7, l8] [.int x, v0, v1, v2, v3, v4, v5] m Q := A_iload_n hB_X12_widens dX12_widens_136 rfl
theorem dX12_widens_137 : decode cX12_widens 137 = .ok (.iaload, 1) := by decide +kernel
theorem tX12_widens_137 {d : Nat} {l0 l1 l2 l3 l4 l5 l6 l7 l8 : Option Value} {v2 v3 v4 v5 v6 : Value} {i : Int32} {a : Nat} {m : jmM} {Q : Option Value → jmM → Prop} : AW d 237 137 [l0, l1, l2, l3, l4, l5, l6, l7, l8] [.int i, .ref a, v2, v3, v4, v5, v6] m Q ↔ (((mS m a).1 = 20 ∨ a = jScr) ∧ jIx i (mS m a).2) ∧ AW d 237 138 [l0, l1, l2, l3, l4, l5, l6, l7, l8] [.int (mI m a (jx i)), v2, v3, v4, v5, v6] m Q := A_iaload hB_X12_widens dX12_widens_137
theorem dX12_widens_138 : decode cX12_widens 138 = .ok (.i2l, 1) := by decide +kernel
theorem tX12_widens_138 {d : Nat} {l0 l1 l2 l3 l4 l5 l6 l7 l8 : Option Value} {v1 v2 v3 v4 v5 : Value} {x : Int32} {m : jmM} {Q : Option Value → jmM → Prop} : AW d 237 138 [l0, l1, l2, l3, l4, l5, l6, l7, l8] [.int x, v1, v2, v3, v4, v5] m Q ↔ AW d 237 139 [l0, l1, l2, l3, l4, l5, l6, l7, l8] [.long x.toInt64, v1, v2, v3, v4, v5] m Q := A_i2l hB_X12_widens dX12_widens_138
theorem dX12_widens_139 : decode cX12_widens 139 = .ok (.lmul, 1) := by decide +kernel
theorem tX12_widens_139 {d : Nat} {l0 l1 l2 l3 l4 l5 l6 l7 l8 : Option Value} {v2 v3 v4 v5 : Value} {x y : Int64} {m : jmM} {Q : Option Value → jmM → Prop} : AW d 237 139 [l0, l1, l2, l3, l4, l5, l6, l7, l8] [.long y, .long x, v2, v3, v4, v5] m Q ↔ AW d 237 140 [l0, l1, l2, l3, l4, l5, l6, l7, l8] [.long (x * y), v2, v3, v4, v5] m Q := A_lmul hB_X12_widens dX12_widens_139
theorem dX12_widens_140 : decode cX12_widens 140 = .ok (.lconst 1, 1) := by decide +kernel
theorem tX12_widens_140 {d : Nat} {l0 l1 l2 l3 l4 l5 l6 l7 l8 : Option Value} {v0 v1 v2 v3 v4 : Value} {m : jmM} {Q : Option Value → jmM → Prop} : AW d 237 140 [l0, l1, l2, l3, l4, l5, l6, l7, l8] [v0, v1, v2, v3, v4] m Q ↔ AW d 237 141 [l0, l1, l2, l3, l4, l5, l6, l7, l8] [.long 1, v0, v1, v2, v3, v4] m Q := A_lconst hB_X12_widens dX12_widens_140 (by decide)
theorem dX12_widens_141 : decode cX12_widens 141 = .ok (.ladd, 1) := by decide +kernel
theorem tX12_widens_141 {d : Nat} {l0 l1 l2 l3 l4 l5 l6 l7 l8 : Option Value} {v2 v3 v4 v5 : Value} {x y : Int64} {m : jmM} {Q : Option Value → jmM → Prop} : AW d 237 141 [l0, l1, l2, l3, l4, l5, l6, l7, l8] [.long y, .long x, v2, v3, v4, v5] m Q ↔ AW d 237 142 [l0, l1, l2, l3, l4, l5, l6, l7, l8] [.long (x + y), v2, v3, v4, v5] m Q := A_ladd hB_X12_widens dX12_widens_141
theorem dX12_widens_142 : decode cX12_widens 142 = .ok (.lrem, 1) := by decide +kernel
theorem tX12_widens_142 {d : Nat} {l0 l1 l2 l3 l4 l5 l6 l7 l8 : Option Value} {v2 v3 v4 : Value} {x y : Int64} {m : jmM} {Q : Option Value → jmM → Prop} : AW d 237 142 [l0, l1, l2, l3, l4, l5, l6, l7, l8] [.long y, .long x, v2, v3, v4] m Q ↔ ¬ y = 0 ∧ AW d 237 143 [l0, l1, l2, l3, l4, l5, l6, l7, l8] [.long (x - x / y * y), v2, v3, v4] m Q := A_lrem hB_X12_widens dX12_widens_142
theorem dX12_widens_143 : decode cX12_widens 143 = .ok (.ladd, 1) := by decide +kernel
theorem tX12_widens_143 {d : Nat} {l0 l1 l2 l3 l4 l5 l6 l7 l8 : Option Value} {v2 v3 : Value} {x y : Int64} {m : jmM} {Q : Option Value → jmM → Prop} : AW d 237 143 [l0, l1, l2, l3, l4, l5, l6, l7, l8] [.long y, .long x, v2, v3] m Q ↔ AW d 237 144 [l0, l1, l2, l3, l4, l5, l6, l7, l8] [.long (x + y), v2, v3] m Q := A_ladd hB_X12_widens dX12_widens_143
theorem dX12_widens_144 : decode cX12_widens 144 = .ok (.aload_n 0, 1) := by decide +kernel
theorem tX12_widens_144 {d : Nat} {l1 l2 l3 l4 l5 l6 l7 l8 : Option Value} {v0 v1 v2 : Value} {x : Nat} {m : jmM} {Q : Option Value → jmM → Prop} : AW d 237 144 [some (.ref x), l1, l2, l3, l4, l5, l6, l7, l8] [v0, v1, v2] m Q ↔ AW d 237 145 [some (.ref x), l1, l2, l3, l4, l5, l6, l7, l8] [.ref x, v0, v1, v2] m Q := A_aload_n hB_X12_widens dX12_widens_144 rfl
theorem dX12_widens_145 : decode cX12_widens 145 = .ok (.getfield 26, 3) := by decide +kernel
theorem tX12_widens_145 {d : Nat} {l0 l1 l2 l3 l4 l5 l6 l7 l8 : Option Value} {v1 v2 v3 : Value} {a : Nat} {m : jmM} {Q : Option Value → jmM → Prop} : AW d 237 145 [l0, l1, l2, l3, l4, l5, l6, l7, l8] [.ref a, v1, v2, v3] m Q ↔ (mS m a).1 = 12 ∧ AW d 237 148 [l0, l1, l2, l3, l4, l5, l6, l7, l8] [va_rf (mR m a 6), v1, v2, v3] m Q := A_getfield (f := fun m a => va_rf (mR m a 6)) hB_X12_widens dX12_widens_145 hO_X12_widens fF_12_26 rfl
theorem dX12_widens_148 : decode cX12_widens 148 = .ok (.iload_n 3, 1) := by decide +kernel
theorem tX12_widens_148 {d : Nat} {l0 l1 l2 l4 l5 l6 l7 l8 : Option Value} {v0 v1 v2 v3 : Value} {x : Int32} {m : jmM} {Q : Option Value → jmM → Prop} : AW d 237 148 [l0, l1, l2, some (.int x), l4, l5, l6, l7, l8] [v0, v1, v2, v3] m Q ↔ AW d 237 149 [l0, l1, l2, some (.int x), l4, l5, l6, l7, l8] [.int x, v0, v1, v2, v3] m Q := A_iload_n hB_X12_widens dX12_widens_148 rfl
theorem dX12_widens_149 : decode cX12_widens 149 = .ok (.iaload, 1) := by decide +kernel
theorem tX12_widens_149 {d : Nat} {l0 l1 l2 l3 l4 l5 l6 l7 l8 : Option Value} {v2 v3 v4 : Value} {i : Int32} {a : Nat} {m : jmM} {Q : Option Value → jmM → Prop} : AW d 237 149 [l0, l1, l2, l3, l4, l5, l6, l7, l8] [.int i, .ref a, v2, v3, v4] m Q ↔ (((mS m a).1 = 20 ∨ a = jScr) ∧ jIx i (mS m a).2) ∧ AW d 237 150 [l0, l1, l2, l3, l4, l5, l6, l7, l8] [.int (mI m a (jx i)), v2, v3, v4] m Q := A_iaload hB_X12_widens dX12_widens_149
theorem dX12_widens_150 : decode cX12_widens 150 = .ok (.i2l, 1) := by decide +kernel
theorem tX12_widens_150 {d : Nat} {l0 l1 l2 l3 l4 l5 l6 l7 l8 : Option Value} {v1 v2 v3 : Value} {x : Int32} {m : jmM} {Q : Option Value → jmM → Prop} : AW d 237 150 [l0, l1, l2, l3, l4, l5, l6, l7, l8] [.int x, v1, v2, v3] m Q ↔ AW d 237 151 [l0, l1, l2, l3, l4, l5, l6, l7, l8] [.long x.toInt64, v1, v2, v3] m Q := A_i2l hB_X12_widens dX12_widens_150
theorem dX12_widens_151 : decode cX12_widens 151 = .ok (.lsub, 1) := by decide +kernel
theorem tX12_widens_151 {d : Nat} {l0 l1 l2 l3 l4 l5 l6 l7 l8 : Option Value} {v2 v3 : Value} {x y : Int64} {m : jmM} {Q : Option Value → jmM → Prop} : AW d 237 151 [l0, l1, l2, l3, l4, l5, l6, l7, l8] [.long y, .long x, v2, v3] m Q ↔ AW d 237 152 [l0, l1, l2, l3, l4, l5, l6, l7, l8] [.long (x - y), v2, v3] m Q := A_lsub hB_X12_widens dX12_widens_151
theorem dX12_widens_152 : decode cX12_widens 152 = .ok (.lconst 0, 1) := by decide +kernel
theorem tX12_widens_152 {d : Nat} {l0 l1 l2 l3 l4 l5 l6 l7 l8 : Option Value} {v0 v1 v2 : Value} {m : jmM} {Q : Option Value → jmM → Prop} : AW d 237 152 [l0, l1, l2, l3, l4, l5, l6, l7, l8] [v0, v1, v2] m Q ↔ AW d 237 153 [l0, l1, l2, l3, l4, l5, l6, l7, l8] [.long 0, v0, v1, v2] m Q := A_lconst hB_X12_widens dX12_widens_152 (by decide)
theorem dX12_widens_153 : decode cX12_widens 153 = .ok (.ldc2_w 291, 3) := by decide +kernel
theorem tX12_widens_153 {d : Nat} {l0 l1 l2 l3 l4 l5 l6 l7 l8 : Option Value} {v0 v1 v2 v3 : Value} {m : jmM} {Q : Option Value → jmM → Prop} : AW d 237 153 [l0, l1, l2, l3, l4, l5, l6, l7, l8] [v0, v1, v2, v3] m Q ↔ AW d 237 156 [l0, l1, l2, l3, l4, l5, l6, l7, l8] [.long 9999, v0, v1, v2, v3] m Q := A_ldc2_w hB_X12_widens dX12_widens_153 hO_X12_widens fL2_12_291
theorem dX12_widens_156 : decode cX12_widens 156 = .ok (.invokestatic 309, 3) := by decide +kernel
theorem tX12_widens_156 {d : Nat} {l0 l1 l2 l3 l4 l5 l6 l7 l8 : Option Value} {v3 v4 : Value} {y0 y1 y2 : Value} {m : jmM} {Q : Option Value → jmM → Prop} : AW d 237 156 [l0, l1, l2, l3, l4, l5, l6, l7, l8] [y0, y1, y2, v3, v4] m Q ↔ CC d 190 [y2, y1, y0] m (jK d 237 159 [l0, l1, l2, l3, l4, l5, l6, l7, l8] [v3, v4] Q) := A_callS0 hB_X12_widens dX12_widens_156 hO_X12_widens fS_12_309 ⟨Nat.le_of_ble_eq_true rfl, Nat.le_of_ble_eq_true rfl⟩ rfl rfl
theorem dX12_widens_159 : decode cX12_widens 159 = .ok (.l2i, 1) := by decide +kernel
theorem tX12_widens_159 {d : Nat} {l0 l1 l2 l3 l4 l5 l6 l7 l8 : Option Value} {v1 v2 : Value} {x : Int64} {m : jmM} {Q : Option Value → jmM → Prop} : AW d 237 159 [l0, l1, l2, l3, l4, l5, l6, l7, l8] [.long x, v1, v2] m Q ↔ AW d 237 160 [l0, l1, l2, l3, l4, l5, l6, l7, l8] [.int x.toInt32, v1, v2] m Q := A_l2i hB_X12_widens dX12_widens_159
theorem dX12_widens_160 : decode cX12_widens 160 = .ok (.iastore, 1) := by decide +kernel
theorem tX12_widens_160 {d : Nat} {l0 l1 l2 l3 l4 l5 l6 l7 l8 : Option Value} {x i : Int32} {a : Nat} {m : jmM} {Q : Option Value → jmM → Prop} : AW d 237 160 [l0, l1, l2, l3, l4, l5, l6, l7, l8] [.int x, .int i, .ref a] m Q ↔ ((mS m a).1 = 20 ∧ jIx i (mS m a).2) ∧ AW d 237 161 [l0, l1, l2, l3, l4, l5, l6, l7, l8] [] (cI m a (jup (mI m a) (jx i) x)) Q := A_iastore hB_X12_widens dX12_widens_160
theorem dX12_widens_161 : decode cX12_widens 161 = .ok (.return_, 1) := by decide +kernel
theorem tX12_widens_161 {d : Nat} {l0 l1 l2 l3 l4 l5 l6 l7 l8 : Option Value} {m : jmM} {Q : Option Value → jmM → Prop} : AW d 237 161 [l0, l1, l2, l3, l4, l5, l6, l7, l8] [] m Q ↔ Q none m := A_return hB_X12_widens dX12_widens_161 hR_X12_widens
