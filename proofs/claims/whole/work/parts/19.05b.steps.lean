/-! steps of PulledCrystal$Pot, by program -/
theorem hB_X5_meltOf : jB 85 = cX5_meltOf := rfl
theorem hO_X5_meltOf : jO 85 = 5 := rfl
theorem hR_X5_meltOf : jRt 85 = (some .long) := rfl
theorem nX5_meltOf (d : Nat) (x0 : Nat) (x1 : Int32) (m : jmM) (Q : Option Value → jmM → Prop) : CC (d + 1) 85 [.ref x0, .int x1] m Q ↔ AW d 85 0 [some (.ref x0), some (.int x1)] [] m Q := CC_body (Nat.le_of_ble_eq_true rfl)
theorem dX5_meltOf_0 : decode cX5_meltOf 0 = .ok (.iload_n 1, 1) := by decide +kernel
theorem tX5_meltOf_0 {d : Nat} {l0 : Option Value} {x : Int32} {m : jmM} {Q : Option Value → jmM → Prop} : AW d 85 0 [l0, some (.int x)] [] m Q ↔ AW d 85 1 [l0, some (.int x)] [.int x] m Q := A_iload_n hB_X5_meltOf dX5_meltOf_0 rfl
theorem dX5_meltOf_1 : decode cX5_meltOf 1 = .ok (.invokestatic 226, 3) := by decide +kernel
theorem tX5_meltOf_1 {d : Nat} {l0 l1 : Option Value} {y0 : Value} {m : jmM} {Q : Option Value → jmM → Prop} : AW d 85 1 [l0, l1] [y0] m Q ↔ CC d 182 [y0] m (jK d 85 4 [l0, l1] [] Q) := A_callS4 hB_X5_meltOf dX5_meltOf_1 hO_X5_meltOf fS_5_226 ⟨Nat.le_of_ble_eq_true rfl, Nat.le_of_ble_eq_true rfl⟩ rfl rfl
theorem dX5_meltOf_4 : decode cX5_meltOf 4 = .ok (.ifCond .eq 12, 3) := by decide +kernel
theorem tX5_meltOf_4 {d : Nat} {l0 l1 : Option Value} {x : Int32} {m : jmM} {Q : Option Value → jmM → Prop} : AW d 85 4 [l0, l1] [.int x] m Q ↔ if x = 0 then AW d 85 16 [l0, l1] [] m Q else AW d 85 7 [l0, l1] [] m Q := A_if_eq hB_X5_meltOf dX5_meltOf_4 (by decide)
theorem dX5_meltOf_7 : decode cX5_meltOf 7 = .ok (.aload_n 0, 1) := by decide +kernel
theorem tX5_meltOf_7 {d : Nat} {l1 : Option Value} {x : Nat} {m : jmM} {Q : Option Value → jmM → Prop} : AW d 85 7 [some (.ref x), l1] [] m Q ↔ AW d 85 8 [some (.ref x), l1] [.ref x] m Q := A_aload_n hB_X5_meltOf dX5_meltOf_7 rfl
theorem dX5_meltOf_8 : decode cX5_meltOf 8 = .ok (.getfield 75, 3) := by decide +kernel
theorem tX5_meltOf_8 {d : Nat} {l0 l1 : Option Value} {a : Nat} {m : jmM} {Q : Option Value → jmM → Prop} : AW d 85 8 [l0, l1] [.ref a] m Q ↔ (mS m a).1 = 5 ∧ AW d 85 11 [l0, l1] [va_rf (mR m a 18)] m Q := A_getfield (f := fun m a => va_rf (mR m a 18)) hB_X5_meltOf dX5_meltOf_8 hO_X5_meltOf fF_5_75 rfl
theorem dX5_meltOf_11 : decode cX5_meltOf 11 = .ok (.iload_n 1, 1) := by decide +kernel
theorem tX5_meltOf_11 {d : Nat} {l0 : Option Value} {v0 : Value} {x : Int32} {m : jmM} {Q : Option Value → jmM → Prop} : AW d 85 11 [l0, some (.int x)] [v0] m Q ↔ AW d 85 12 [l0, some (.int x)] [.int x, v0] m Q := A_iload_n hB_X5_meltOf dX5_meltOf_11 rfl
theorem dX5_meltOf_12 : decode cX5_meltOf 12 = .ok (.laload, 1) := by decide +kernel
theorem tX5_meltOf_12 {d : Nat} {l0 l1 : Option Value} {i : Int32} {a : Nat} {m : jmM} {Q : Option Value → jmM → Prop} : AW d 85 12 [l0, l1] [.int i, .ref a] m Q ↔ ((mS m a).1 = 21 ∧ jIx i (mS m a).2) ∧ AW d 85 13 [l0, l1] [.long (mL m a (jx i))] m Q := A_laload hB_X5_meltOf dX5_meltOf_12
theorem dX5_meltOf_13 : decode cX5_meltOf 13 = .ok (.goto 4, 3) := by decide +kernel
theorem tX5_meltOf_13 {d : Nat} {l0 l1 : Option Value} {v0 : Value} {m : jmM} {Q : Option Value → jmM → Prop} : AW d 85 13 [l0, l1] [v0] m Q ↔ AW d 85 17 [l0, l1] [v0] m Q := A_goto hB_X5_meltOf dX5_meltOf_13 (by decide)
theorem dX5_meltOf_16 : decode cX5_meltOf 16 = .ok (.lconst 0, 1) := by decide +kernel
theorem tX5_meltOf_16 {d : Nat} {l0 l1 : Option Value} {m : jmM} {Q : Option Value → jmM → Prop} : AW d 85 16 [l0, l1] [] m Q ↔ AW d 85 17 [l0, l1] [.long 0] m Q := A_lconst hB_X5_meltOf dX5_meltOf_16 (by decide)
theorem dX5_meltOf_17 : decode cX5_meltOf 17 = .ok (.lreturn, 1) := by decide +kernel
theorem tX5_meltOf_17 {d : Nat} {l0 l1 : Option Value} {x : Int64} {m : jmM} {Q : Option Value → jmM → Prop} : AW d 85 17 [l0, l1] [.long x] m Q ↔ Q (some (.long x)) m := A_lreturn hB_X5_meltOf dX5_meltOf_17 hR_X5_meltOf
theorem hB_X5_wentInto : jB 86 = cX5_wentInto := rfl
theorem hO_X5_wentInto : jO 86 = 5 := rfl
theorem hR_X5_wentInto : jRt 86 = (some .long) := rfl
theorem nX5_wentInto (d : Nat) (x0 : Nat) (x1 : Int32) (x2 : Int32) (m : jmM) (Q : Option Value → jmM → Prop) : CC (d + 1) 86 [.ref x0, .int x1, .int x2] m Q ↔ AW d 86 0 [some (.ref x0), some (.int x1), some (.int x2)] [] m Q := CC_body (Nat.le_of_ble_eq_true rfl)
theorem dX5_wentInto_0 : decode cX5_wentInto 0 = .ok (.iload_n 1, 1) := by decide +kernel
theorem tX5_wentInto_0 {d : Nat} {l0 l2 : Option Value} {x : Int32} {m : jmM} {Q : Option Value → jmM → Prop} : AW d 86 0 [l0, some (.int x), l2] [] m Q ↔ AW d 86 1 [l0, some (.int x), l2] [.int x] m Q := A_iload_n hB_X5_wentInto dX5_wentInto_0 rfl
theorem dX5_wentInto_1 : decode cX5_wentInto 1 = .ok (.invokestatic 226, 3) := by decide +kernel
theorem tX5_wentInto_1 {d : Nat} {l0 l1 l2 : Option Value} {y0 : Value} {m : jmM} {Q : Option Value → jmM → Prop} : AW d 86 1 [l0, l1, l2] [y0] m Q ↔ CC d 182 [y0] m (jK d 86 4 [l0, l1, l2] [] Q) := A_callS4 hB_X5_wentInto dX5_wentInto_1 hO_X5_wentInto fS_5_226 ⟨Nat.le_of_ble_eq_true rfl, Nat.le_of_ble_eq_true rfl⟩ rfl rfl
theorem dX5_wentInto_4 : decode cX5_wentInto 4 = .ok (.ifCond .eq 25, 3) := by decide +kernel
theorem tX5_wentInto_4 {d : Nat} {l0 l1 l2 : Option Value} {x : Int32} {m : jmM} {Q : Option Value → jmM → Prop} : AW d 86 4 [l0, l1, l2] [.int x] m Q ↔ if x = 0 then AW d 86 29 [l0, l1, l2] [] m Q else AW d 86 7 [l0, l1, l2] [] m Q := A_if_eq hB_X5_wentInto dX5_wentInto_4 (by decide)
theorem dX5_wentInto_7 : decode cX5_wentInto 7 = .ok (.aload_n 0, 1) := by decide +kernel
theorem tX5_wentInto_7 {d : Nat} {l1 l2 : Option Value} {x : Nat} {m : jmM} {Q : Option Value → jmM → Prop} : AW d 86 7 [some (.ref x), l1, l2] [] m Q ↔ AW d 86 8 [some (.ref x), l1, l2] [.ref x] m Q := A_aload_n hB_X5_wentInto dX5_wentInto_7 rfl
theorem dX5_wentInto_8 : decode cX5_wentInto 8 = .ok (.iload_n 2, 1) := by decide +kernel
theorem tX5_wentInto_8 {d : Nat} {l0 l1 : Option Value} {v0 : Value} {x : Int32} {m : jmM} {Q : Option Value → jmM → Prop} : AW d 86 8 [l0, l1, some (.int x)] [v0] m Q ↔ AW d 86 9 [l0, l1, some (.int x)] [.int x, v0] m Q := A_iload_n hB_X5_wentInto dX5_wentInto_8 rfl
theorem dX5_wentInto_9 : decode cX5_wentInto 9 = .ok (.invokevirtual 161, 3) := by decide +kernel
theorem tX5_wentInto_9 {d : Nat} {l0 l1 l2 : Option Value} {y0 : Value} {a : Nat} {m : jmM} {Q : Option Value → jmM → Prop} : AW d 86 9 [l0, l1, l2] [y0, .ref a] m Q ↔ (mS m a).1 = 5 ∧ CC d 72 [.ref a, y0] m (jK d 86 12 [l0, l1, l2] [] Q) := A_callV hB_X5_wentInto dX5_wentInto_9 hO_X5_wentInto fS_5_161 ⟨Nat.le_of_ble_eq_true rfl, Nat.le_of_ble_eq_true rfl⟩ rfl rfl rfl
theorem dX5_wentInto_12 : decode cX5_wentInto 12 = .ok (.ifCond .eq 17, 3) := by decide +kernel
theorem tX5_wentInto_12 {d : Nat} {l0 l1 l2 : Option Value} {x : Int32} {m : jmM} {Q : Option Value → jmM → Prop} : AW d 86 12 [l0, l1, l2] [.int x] m Q ↔ if x = 0 then AW d 86 29 [l0, l1, l2] [] m Q else AW d 86 15 [l0, l1, l2] [] m Q := A_if_eq hB_X5_wentInto dX5_wentInto_12 (by decide)
theorem dX5_wentInto_15 : decode cX5_wentInto 15 = .ok (.aload_n 0, 1) := by decide +kernel
theorem tX5_wentInto_15 {d : Nat} {l1 l2 : Option Value} {x : Nat} {m : jmM} {Q : Option Value → jmM → Prop} : AW d 86 15 [some (.ref x), l1, l2] [] m Q ↔ AW d 86 16 [some (.ref x), l1, l2] [.ref x] m Q := A_aload_n hB_X5_wentInto dX5_wentInto_15 rfl
theorem dX5_wentInto_16 : decode cX5_wentInto 16 = .ok (.getfield 71, 3) := by decide +kernel
theorem tX5_wentInto_16 {d : Nat} {l0 l1 l2 : Option Value} {a : Nat} {m : jmM} {Q : Option Value → jmM → Prop} : AW d 86 16 [l0, l1, l2] [.ref a] m Q ↔ (mS m a).1 = 5 ∧ AW d 86 19 [l0, l1, l2] [va_rf (mR m a 17)] m Q := A_getfield (f := fun m a => va_rf (mR m a 17)) hB_X5_wentInto dX5_wentInto_16 hO_X5_wentInto fF_5_71 rfl
theorem dX5_wentInto_19 : decode cX5_wentInto 19 = .ok (.iload_n 2, 1) := by decide +kernel
theorem tX5_wentInto_19 {d : Nat} {l0 l1 : Option Value} {v0 : Value} {x : Int32} {m : jmM} {Q : Option Value → jmM → Prop} : AW d 86 19 [l0, l1, some (.int x)] [v0] m Q ↔ AW d 86 20 [l0, l1, some (.int x)] [.int x, v0] m Q := A_iload_n hB_X5_wentInto dX5_wentInto_19 rfl
theorem dX5_wentInto_20 : decode cX5_wentInto 20 = .ok (.bipush 6, 2) := by decide +kernel
theorem tX5_wentInto_20 {d : Nat} {l0 l1 l2 : Option Value} {v0 v1 : Value} {m : jmM} {Q : Option Value → jmM → Prop} : AW d 86 20 [l0, l1, l2] [v0, v1] m Q ↔ AW d 86 22 [l0, l1, l2] [.int 6, v0, v1] m Q := A_bipush hB_X5_wentInto dX5_wentInto_20 rfl
theorem dX5_wentInto_22 : decode cX5_wentInto 22 = .ok (.imul, 1) := by decide +kernel
theorem tX5_wentInto_22 {d : Nat} {l0 l1 l2 : Option Value} {v2 : Value} {x y : Int32} {m : jmM} {Q : Option Value → jmM → Prop} : AW d 86 22 [l0, l1, l2] [.int y, .int x, v2] m Q ↔ AW d 86 23 [l0, l1, l2] [.int (x * y), v2] m Q := A_imul hB_X5_wentInto dX5_wentInto_22
theorem dX5_wentInto_23 : decode cX5_wentInto 23 = .ok (.iload_n 1, 1) := by decide +kernel
theorem tX5_wentInto_23 {d : Nat} {l0 l2 : Option Value} {v0 v1 : Value} {x : Int32} {m : jmM} {Q : Option Value → jmM → Prop} : AW d 86 23 [l0, some (.int x), l2] [v0, v1] m Q ↔ AW d 86 24 [l0, some (.int x), l2] [.int x, v0, v1] m Q := A_iload_n hB_X5_wentInto dX5_wentInto_23 rfl
theorem dX5_wentInto_24 : decode cX5_wentInto 24 = .ok (.iadd, 1) := by decide +kernel
theorem tX5_wentInto_24 {d : Nat} {l0 l1 l2 : Option Value} {v2 : Value} {x y : Int32} {m : jmM} {Q : Option Value → jmM → Prop} : AW d 86 24 [l0, l1, l2] [.int y, .int x, v2] m Q ↔ AW d 86 25 [l0, l1, l2] [.int (x + y), v2] m Q := A_iadd hB_X5_wentInto dX5_wentInto_24
theorem dX5_wentInto_25 : decode cX5_wentInto 25 = .ok (.laload, 1) := by decide +kernel
theorem tX5_wentInto_25 {d : Nat} {l0 l1 l2 : Option Value} {i : Int32} {a : Nat} {m : jmM} {Q : Option Value → jmM → Prop} : AW d 86 25 [l0, l1, l2] [.int i, .ref a] m Q ↔ ((mS m a).1 = 21 ∧ jIx i (mS m a).2) ∧ AW d 86 26 [l0, l1, l2] [.long (mL m a (jx i))] m Q := A_laload hB_X5_wentInto dX5_wentInto_25
theorem dX5_wentInto_26 : decode cX5_wentInto 26 = .ok (.goto 4, 3) := by decide +kernel
theorem tX5_wentInto_26 {d : Nat} {l0 l1 l2 : Option Value} {v0 : Value} {m : jmM} {Q : Option Value → jmM → Prop} : AW d 86 26 [l0, l1, l2] [v0] m Q ↔ AW d 86 30 [l0, l1, l2] [v0] m Q := A_goto hB_X5_wentInto dX5_wentInto_26 (by decide)
theorem dX5_wentInto_29 : decode cX5_wentInto 29 = .ok (.lconst 0, 1) := by decide +kernel
theorem tX5_wentInto_29 {d : Nat} {l0 l1 l2 : Option Value} {m : jmM} {Q : Option Value → jmM → Prop} : AW d 86 29 [l0, l1, l2] [] m Q ↔ AW d 86 30 [l0, l1, l2] [.long 0] m Q := A_lconst hB_X5_wentInto dX5_wentInto_29 (by decide)
theorem dX5_wentInto_30 : decode cX5_wentInto 30 = .ok (.lreturn, 1) := by decide +kernel
theorem tX5_wentInto_30 {d : Nat} {l0 l1 l2 : Option Value} {x : Int64} {m : jmM} {Q : Option Value → jmM → Prop} : AW d 86 30 [l0, l1, l2] [.long x] m Q ↔ Q (some (.long x)) m := A_lreturn hB_X5_wentInto dX5_wentInto_30 hR_X5_wentInto
theorem hB_X5_partsOf : jB 87 = cX5_partsOf := rfl
theorem hO_X5_partsOf : jO 87 = 5 := rfl
theorem hR_X5_partsOf : jRt 87 = (some .long) := rfl
theorem nX5_partsOf (d : Nat) (x0 : Nat) (x1 : Int32) (x2 : Int32) (m : jmM) (Q : Option Value → jmM → Prop) : CC (d + 1) 87 [.ref x0, .int x1, .int x2] m Q ↔ AW d 87 0 [some (.ref x0), some (.int x1), some (.int x2)] [] m Q := CC_body (Nat.le_of_ble_eq_true rfl)
theorem dX5_partsOf_0 : decode cX5_partsOf 0 = .ok (.aload_n 0, 1) := by decide +kernel
theorem tX5_partsOf_0 {d : Nat} {l1 l2 : Option Value} {x : Nat} {m : jmM} {Q : Option Value → jmM → Prop} : AW d 87 0 [some (.ref x), l1, l2] [] m Q ↔ AW d 87 1 [some (.ref x), l1, l2] [.ref x] m Q := A_aload_n hB_X5_partsOf dX5_partsOf_0 rfl
theorem dX5_partsOf_1 : decode cX5_partsOf 1 = .ok (.iload_n 1, 1) := by decide +kernel
theorem tX5_partsOf_1 {d : Nat} {l0 l2 : Option Value} {v0 : Value} {x : Int32} {m : jmM} {Q : Option Value → jmM → Prop} : AW d 87 1 [l0, some (.int x), l2] [v0] m Q ↔ AW d 87 2 [l0, some (.int x), l2] [.int x, v0] m Q := A_iload_n hB_X5_partsOf dX5_partsOf_1 rfl
theorem dX5_partsOf_2 : decode cX5_partsOf 2 = .ok (.iload_n 2, 1) := by decide +kernel
theorem tX5_partsOf_2 {d : Nat} {l0 l1 : Option Value} {v0 v1 : Value} {x : Int32} {m : jmM} {Q : Option Value → jmM → Prop} : AW d 87 2 [l0, l1, some (.int x)] [v0, v1] m Q ↔ AW d 87 3 [l0, l1, some (.int x)] [.int x, v0, v1] m Q := A_iload_n hB_X5_partsOf dX5_partsOf_2 rfl
theorem dX5_partsOf_3 : decode cX5_partsOf 3 = .ok (.invokevirtual 200, 3) := by decide +kernel
theorem tX5_partsOf_3 {d : Nat} {l0 l1 l2 : Option Value} {y0 y1 : Value} {a : Nat} {m : jmM} {Q : Option Value → jmM → Prop} : AW d 87 3 [l0, l1, l2] [y0, y1, .ref a] m Q ↔ (mS m a).1 = 5 ∧ CC d 86 [.ref a, y1, y0] m (jK d 87 6 [l0, l1, l2] [] Q) := A_callV hB_X5_partsOf dX5_partsOf_3 hO_X5_partsOf fS_5_200 ⟨Nat.le_of_ble_eq_true rfl, Nat.le_of_ble_eq_true rfl⟩ rfl rfl rfl
theorem dX5_partsOf_6 : decode cX5_partsOf 6 = .ok (.aload_n 0, 1) := by decide +kernel
theorem tX5_partsOf_6 {d : Nat} {l1 l2 : Option Value} {v0 : Value} {x : Nat} {m : jmM} {Q : Option Value → jmM → Prop} : AW d 87 6 [some (.ref x), l1, l2] [v0] m Q ↔ AW d 87 7 [some (.ref x), l1, l2] [.ref x, v0] m Q := A_aload_n hB_X5_partsOf dX5_partsOf_6 rfl
theorem dX5_partsOf_7 : decode cX5_partsOf 7 = .ok (.iload_n 2, 1) := by decide +kernel
theorem tX5_partsOf_7 {d : Nat} {l0 l1 : Option Value} {v0 v1 : Value} {x : Int32} {m : jmM} {Q : Option Value → jmM → Prop} : AW d 87 7 [l0, l1, some (.int x)] [v0, v1] m Q ↔ AW d 87 8 [l0, l1, some (.int x)] [.int x, v0, v1] m Q := A_iload_n hB_X5_partsOf dX5_partsOf_7 rfl
theorem dX5_partsOf_8 : decode cX5_partsOf 8 = .ok (.invokevirtual 194, 3) := by decide +kernel
theorem tX5_partsOf_8 {d : Nat} {l0 l1 l2 : Option Value} {v2 : Value} {y0 : Value} {a : Nat} {m : jmM} {Q : Option Value → jmM → Prop} : AW d 87 8 [l0, l1, l2] [y0, .ref a, v2] m Q ↔ (mS m a).1 = 5 ∧ CC d 84 [.ref a, y0] m (jK d 87 11 [l0, l1, l2] [v2] Q) := A_callV hB_X5_partsOf dX5_partsOf_8 hO_X5_partsOf fS_5_194 ⟨Nat.le_of_ble_eq_true rfl, Nat.le_of_ble_eq_true rfl⟩ rfl rfl rfl
theorem dX5_partsOf_11 : decode cX5_partsOf 11 = .ok (.i2l, 1) := by decide +kernel
theorem tX5_partsOf_11 {d : Nat} {l0 l1 l2 : Option Value} {v1 : Value} {x : Int32} {m : jmM} {Q : Option Value → jmM → Prop} : AW d 87 11 [l0, l1, l2] [.int x, v1] m Q ↔ AW d 87 12 [l0, l1, l2] [.long x.toInt64, v1] m Q := A_i2l hB_X5_partsOf dX5_partsOf_11
theorem dX5_partsOf_12 : decode cX5_partsOf 12 = .ok (.invokestatic 223, 3) := by decide +kernel
theorem tX5_partsOf_12 {d : Nat} {l0 l1 l2 : Option Value} {y0 y1 : Value} {m : jmM} {Q : Option Value → jmM → Prop} : AW d 87 12 [l0, l1, l2] [y0, y1] m Q ↔ CC d 186 [y1, y0] m (jK d 87 15 [l0, l1, l2] [] Q) := A_callS4 hB_X5_partsOf dX5_partsOf_12 hO_X5_partsOf fS_5_223 ⟨Nat.le_of_ble_eq_true rfl, Nat.le_of_ble_eq_true rfl⟩ rfl rfl
theorem dX5_partsOf_15 : decode cX5_partsOf 15 = .ok (.lreturn, 1) := by decide +kernel
theorem tX5_partsOf_15 {d : Nat} {l0 l1 l2 : Option Value} {x : Int64} {m : jmM} {Q : Option Value → jmM → Prop} : AW d 87 15 [l0, l1, l2] [.long x] m Q ↔ Q (some (.long x)) m := A_lreturn hB_X5_partsOf dX5_partsOf_15 hR_X5_partsOf
