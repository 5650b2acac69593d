/-! steps of PulledCrystalModel, by program -/
theorem hB_X12_minute : jB 238 = cX12_minute := rfl
theorem hO_X12_minute : jO 238 = 12 := rfl
theorem hR_X12_minute : jRt 238 = none := rfl
theorem nX12_minute (d : Nat) (x0 : Nat) (m : jmM) (Q : Option Value → jmM → Prop) : CC (d + 1) 238 [.ref x0] m Q ↔ AW d 238 0 [some (.ref x0), none, none, none, none, none, none, none, none] [] m Q := CC_body (Nat.le_of_ble_eq_true rfl)
theorem dX12_minute_0 : decode cX12_minute 0 = .ok (.aload_n 0, 1) := by decide +kernel
theorem tX12_minute_0 {d : Nat} {l1 l2 l3 l4 l5 l6 l7 l8 : Option Value} {x : Nat} {m : jmM} {Q : Option Value → jmM → Prop} : AW d 238 0 [some (.ref x), l1, l2, l3, l4, l5, l6, l7, l8] [] m Q ↔ AW d 238 1 [some (.ref x), l1, l2, l3, l4, l5, l6, l7, l8] [.ref x] m Q := A_aload_n hB_X12_minute dX12_minute_0 rfl
theorem dX12_minute_1 : decode cX12_minute 1 = .ok (.getfield 51, 3) := by decide +kernel
theorem tX12_minute_1 {d : Nat} {l0 l1 l2 l3 l4 l5 l6 l7 l8 : Option Value} {a : Nat} {m : jmM} {Q : Option Value → jmM → Prop} : AW d 238 1 [l0, l1, l2, l3, l4, l5, l6, l7, l8] [.ref a] m Q ↔ (mS m a).1 = 12 ∧ AW d 238 4 [l0, l1, l2, l3, l4, l5, l6, l7, l8] [va_rf (mR m a 25)] m Q := A_getfield (f := fun m a => va_rf (mR m a 25)) hB_X12_minute dX12_minute_1 hO_X12_minute fF_12_51 rfl
theorem dX12_minute_4 : decode cX12_minute 4 = .ok (.bipush 15, 2) := by decide +kernel
theorem tX12_minute_4 {d : Nat} {l0 l1 l2 l3 l4 l5 l6 l7 l8 : Option Value} {v0 : Value} {m : jmM} {Q : Option Value → jmM → Prop} : AW d 238 4 [l0, l1, l2, l3, l4, l5, l6, l7, l8] [v0] m Q ↔ AW d 238 6 [l0, l1, l2, l3, l4, l5, l6, l7, l8] [.int 15, v0] m Q := A_bipush hB_X12_minute dX12_minute_4 rfl
theorem dX12_minute_6 : decode cX12_minute 6 = .ok (.iaload, 1) := by decide +kernel
theorem tX12_minute_6 {d : Nat} {l0 l1 l2 l3 l4 l5 l6 l7 l8 : Option Value} {i : Int32} {a : Nat} {m : jmM} {Q : Option Value → jmM → Prop} : AW d 238 6 [l0, l1, l2, l3, l4, l5, l6, l7, l8] [.int i, .ref a] m Q ↔ (((mS m a).1 = 20 ∨ a = jScr) ∧ jIx i (mS m a).2) ∧ AW d 238 7 [l0, l1, l2, l3, l4, l5, l6, l7, l8] [.int (mI m a (jx i))] m Q := A_iaload hB_X12_minute dX12_minute_6
theorem dX12_minute_7 : decode cX12_minute 7 = .ok (.istore_n 1, 1) := by decide +kernel
theorem tX12_minute_7 {d : Nat} {l0 l1 l2 l3 l4 l5 l6 l7 l8 : Option Value} {x : Int32} {m : jmM} {Q : Option Value → jmM → Prop} : AW d 238 7 [l0, l1, l2, l3, l4, l5, l6, l7, l8] [.int x] m Q ↔ AW d 238 8 [jc1 l0, some (.int x), l2, l3, l4, l5, l6, l7, l8] [] m Q := A_istore_n hB_X12_minute dX12_minute_7 (Nat.le_of_ble_eq_true rfl) rfl
theorem dX12_minute_8 : decode cX12_minute 8 = .ok (.aload_n 0, 1) := by decide +kernel
theorem tX12_minute_8 {d : Nat} {l1 l2 l3 l4 l5 l6 l7 l8 : Option Value} {x : Nat} {m : jmM} {Q : Option Value → jmM → Prop} : AW d 238 8 [some (.ref x), l1, l2, l3, l4, l5, l6, l7, l8] [] m Q ↔ AW d 238 9 [some (.ref x), l1, l2, l3, l4, l5, l6, l7, l8] [.ref x] m Q := A_aload_n hB_X12_minute dX12_minute_8 rfl
theorem dX12_minute_9 : decode cX12_minute 9 = .ok (.iload_n 1, 1) := by decide +kernel
theorem tX12_minute_9 {d : Nat} {l0 l2 l3 l4 l5 l6 l7 l8 : Option Value} {v0 : Value} {x : Int32} {m : jmM} {Q : Option Value → jmM → Prop} : AW d 238 9 [l0, some (.int x), l2, l3, l4, l5, l6, l7, l8] [v0] m Q ↔ AW d 238 10 [l0, some (.int x), l2, l3, l4, l5, l6, l7, l8] [.int x, v0] m Q := A_iload_n hB_X12_minute dX12_minute_9 rfl
theorem dX12_minute_10 : decode cX12_minute 10 = .ok (.invokevirtual 325, 3) := by decide +kernel
theorem tX12_minute_10 {d : Nat} {l0 l1 l2 l3 l4 l5 l6 l7 l8 : Option Value} {y0 : Value} {a : Nat} {m : jmM} {Q : Option Value → jmM → Prop} : AW d 238 10 [l0, l1, l2, l3, l4, l5, l6, l7, l8] [y0, .ref a] m Q ↔ (mS m a).1 = 12 ∧ CC d 235 [.ref a, y0] m (jK d 238 13 [l0, l1, l2, l3, l4, l5, l6, l7, l8] [] Q) := A_callV hB_X12_minute dX12_minute_10 hO_X12_minute fS_12_325 ⟨Nat.le_of_ble_eq_true rfl, Nat.le_of_ble_eq_true rfl⟩ rfl rfl rfl
theorem dX12_minute_13 : decode cX12_minute 13 = .ok (.aload_n 0, 1) := by decide +kernel
theorem tX12_minute_13 {d : Nat} {l1 l2 l3 l4 l5 l6 l7 l8 : Option Value} {x : Nat} {m : jmM} {Q : Option Value → jmM → Prop} : AW d 238 13 [some (.ref x), l1, l2, l3, l4, l5, l6, l7, l8] [] m Q ↔ AW d 238 14 [some (.ref x), l1, l2, l3, l4, l5, l6, l7, l8] [.ref x] m Q := A_aload_n hB_X12_minute dX12_minute_13 rfl
theorem dX12_minute_14 : decode cX12_minute 14 = .ok (.iconst 1, 1) := by decide +kernel
theorem tX12_minute_14 {d : Nat} {l0 l1 l2 l3 l4 l5 l6 l7 l8 : Option Value} {v0 : Value} {m : jmM} {Q : Option Value → jmM → Prop} : AW d 238 14 [l0, l1, l2, l3, l4, l5, l6, l7, l8] [v0] m Q ↔ AW d 238 15 [l0, l1, l2, l3, l4, l5, l6, l7, l8] [.int 1, v0] m Q := A_iconst hB_X12_minute dX12_minute_14 (by decide)
theorem dX12_minute_15 : decode cX12_minute 15 = .ok (.aload_n 0, 1) := by decide +kernel
theorem tX12_minute_15 {d : Nat} {l1 l2 l3 l4 l5 l6 l7 l8 : Option Value} {v0 v1 : Value} {x : Nat} {m : jmM} {Q : Option Value → jmM → Prop} : AW d 238 15 [some (.ref x), l1, l2, l3, l4, l5, l6, l7, l8] [v0, v1] m Q ↔ AW d 238 16 [some (.ref x), l1, l2, l3, l4, l5, l6, l7, l8] [.ref x, v0, v1] m Q := A_aload_n hB_X12_minute dX12_minute_15 rfl
theorem dX12_minute_16 : decode cX12_minute 16 = .ok (.getfield 51, 3) := by decide +kernel
theorem tX12_minute_16 {d : Nat} {l0 l1 l2 l3 l4 l5 l6 l7 l8 : Option Value} {v1 v2 : Value} {a : Nat} {m : jmM} {Q : Option Value → jmM → Prop} : AW d 238 16 [l0, l1, l2, l3, l4, l5, l6, l7, l8] [.ref a, v1, v2] m Q ↔ (mS m a).1 = 12 ∧ AW d 238 19 [l0, l1, l2, l3, l4, l5, l6, l7, l8] [va_rf (mR m a 25), v1, v2] m Q := A_getfield (f := fun m a => va_rf (mR m a 25)) hB_X12_minute dX12_minute_16 hO_X12_minute fF_12_51 rfl
theorem dX12_minute_19 : decode cX12_minute 19 = .ok (.bipush 12, 2) := by decide +kernel
theorem tX12_minute_19 {d : Nat} {l0 l1 l2 l3 l4 l5 l6 l7 l8 : Option Value} {v0 v1 v2 : Value} {m : jmM} {Q : Option Value → jmM → Prop} : AW d 238 19 [l0, l1, l2, l3, l4, l5, l6, l7, l8] [v0, v1, v2] m Q ↔ AW d 238 21 [l0, l1, l2, l3, l4, l5, l6, l7, l8] [.int 12, v0, v1, v2] m Q := A_bipush hB_X12_minute dX12_minute_19 rfl
theorem dX12_minute_21 : decode cX12_minute 21 = .ok (.iaload, 1) := by decide +kernel
theorem tX12_minute_21 {d : Nat} {l0 l1 l2 l3 l4 l5 l6 l7 l8 : Option Value} {v2 v3 : Value} {i : Int32} {a : Nat} {m : jmM} {Q : Option Value → jmM → Prop} : AW d 238 21 [l0, l1, l2, l3, l4, l5, l6, l7, l8] [.int i, .ref a, v2, v3] m Q ↔ (((mS m a).1 = 20 ∨ a = jScr) ∧ jIx i (mS m a).2) ∧ AW d 238 22 [l0, l1, l2, l3, l4, l5, l6, l7, l8] [.int (mI m a (jx i)), v2, v3] m Q := A_iaload hB_X12_minute dX12_minute_21
theorem dX12_minute_22 : decode cX12_minute 22 = .ok (.bipush 99, 2) := by decide +kernel
theorem tX12_minute_22 {d : Nat} {l0 l1 l2 l3 l4 l5 l6 l7 l8 : Option Value} {v0 v1 v2 : Value} {m : jmM} {Q : Option Value → jmM → Prop} : AW d 238 22 [l0, l1, l2, l3, l4, l5, l6, l7, l8] [v0, v1, v2] m Q ↔ AW d 238 24 [l0, l1, l2, l3, l4, l5, l6, l7, l8] [.int 99, v0, v1, v2] m Q := A_bipush hB_X12_minute dX12_minute_22 rfl
theorem dX12_minute_24 : decode cX12_minute 24 = .ok (.invokevirtual 328, 3) := by decide +kernel
theorem tX12_minute_24 {d : Nat} {l0 l1 l2 l3 l4 l5 l6 l7 l8 : Option Value} {y0 y1 y2 : Value} {a : Nat} {m : jmM} {Q : Option Value → jmM → Prop} : AW d 238 24 [l0, l1, l2, l3, l4, l5, l6, l7, l8] [y0, y1, y2, .ref a] m Q ↔ (mS m a).1 = 12 ∧ CC d 236 [.ref a, y2, y1, y0] m (jK d 238 27 [l0, l1, l2, l3, l4, l5, l6, l7, l8] [] Q) := A_callV hB_X12_minute dX12_minute_24 hO_X12_minute fS_12_328 ⟨Nat.le_of_ble_eq_true rfl, Nat.le_of_ble_eq_true rfl⟩ rfl rfl rfl
theorem dX12_minute_27 : decode cX12_minute 27 = .ok (.istore_n 2, 1) := by decide +kernel
theorem tX12_minute_27 {d : Nat} {l0 l1 l2 l3 l4 l5 l6 l7 l8 : Option Value} {x : Int32} {m : jmM} {Q : Option Value → jmM → Prop} : AW d 238 27 [l0, l1, l2, l3, l4, l5, l6, l7, l8] [.int x] m Q ↔ AW d 238 28 [l0, jc1 l1, some (.int x), l3, l4, l5, l6, l7, l8] [] m Q := A_istore_n hB_X12_minute dX12_minute_27 (Nat.le_of_ble_eq_true rfl) rfl
theorem dX12_minute_28 : decode cX12_minute 28 = .ok (.aload_n 0, 1) := by decide +kernel
theorem tX12_minute_28 {d : Nat} {l1 l2 l3 l4 l5 l6 l7 l8 : Option Value} {x : Nat} {m : jmM} {Q : Option Value → jmM → Prop} : AW d 238 28 [some (.ref x), l1, l2, l3, l4, l5, l6, l7, l8] [] m Q ↔ AW d 238 29 [some (.ref x), l1, l2, l3, l4, l5, l6, l7, l8] [.ref x] m Q := A_aload_n hB_X12_minute dX12_minute_28 rfl
theorem dX12_minute_29 : decode cX12_minute 29 = .ok (.iconst 2, 1) := by decide +kernel
theorem tX12_minute_29 {d : Nat} {l0 l1 l2 l3 l4 l5 l6 l7 l8 : Option Value} {v0 : Value} {m : jmM} {Q : Option Value → jmM → Prop} : AW d 238 29 [l0, l1, l2, l3, l4, l5, l6, l7, l8] [v0] m Q ↔ AW d 238 30 [l0, l1, l2, l3, l4, l5, l6, l7, l8] [.int 2, v0] m Q := A_iconst hB_X12_minute dX12_minute_29 (by decide)
theorem dX12_minute_30 : decode cX12_minute 30 = .ok (.aload_n 0, 1) := by decide +kernel
theorem tX12_minute_30 {d : Nat} {l1 l2 l3 l4 l5 l6 l7 l8 : Option Value} {v0 v1 : Value} {x : Nat} {m : jmM} {Q : Option Value → jmM → Prop} : AW d 238 30 [some (.ref x), l1, l2, l3, l4, l5, l6, l7, l8] [v0, v1] m Q ↔ AW d 238 31 [some (.ref x), l1, l2, l3, l4, l5, l6, l7, l8] [.ref x, v0, v1] m Q := A_aload_n hB_X12_minute dX12_minute_30 rfl
theorem dX12_minute_31 : decode cX12_minute 31 = .ok (.getfield 51, 3) := by decide +kernel
theorem tX12_minute_31 {d : Nat} {l0 l1 l2 l3 l4 l5 l6 l7 l8 : Option Value} {v1 v2 : Value} {a : Nat} {m : jmM} {Q : Option Value → jmM → Prop} : AW d 238 31 [l0, l1, l2, l3, l4, l5, l6, l7, l8] [.ref a, v1, v2] m Q ↔ (mS m a).1 = 12 ∧ AW d 238 34 [l0, l1, l2, l3, l4, l5, l6, l7, l8] [va_rf (mR m a 25), v1, v2] m Q := A_getfield (f := fun m a => va_rf (mR m a 25)) hB_X12_minute dX12_minute_31 hO_X12_minute fF_12_51 rfl
theorem dX12_minute_34 : decode cX12_minute 34 = .ok (.bipush 11, 2) := by decide +kernel
theorem tX12_minute_34 {d : Nat} {l0 l1 l2 l3 l4 l5 l6 l7 l8 : Option Value} {v0 v1 v2 : Value} {m : jmM} {Q : Option Value → jmM → Prop} : AW d 238 34 [l0, l1, l2, l3, l4, l5, l6, l7, l8] [v0, v1, v2] m Q ↔ AW d 238 36 [l0, l1, l2, l3, l4, l5, l6, l7, l8] [.int 11, v0, v1, v2] m Q := A_bipush hB_X12_minute dX12_minute_34 rfl
theorem dX12_minute_36 : decode cX12_minute 36 = .ok (.iaload, 1) := by decide +kernel
theorem tX12_minute_36 {d : Nat} {l0 l1 l2 l3 l4 l5 l6 l7 l8 : Option Value} {v2 v3 : Value} {i : Int32} {a : Nat} {m : jmM} {Q : Option Value → jmM → Prop} : AW d 238 36 [l0, l1, l2, l3, l4, l5, l6, l7, l8] [.int i, .ref a, v2, v3] m Q ↔ (((mS m a).1 = 20 ∨ a = jScr) ∧ jIx i (mS m a).2) ∧ AW d 238 37 [l0, l1, l2, l3, l4, l5, l6, l7, l8] [.int (mI m a (jx i)), v2, v3] m Q := A_iaload hB_X12_minute dX12_minute_36
theorem dX12_minute_37 : decode cX12_minute 37 = .ok (.sipush 999, 3) := by decide +kernel
theorem tX12_minute_37 {d : Nat} {l0 l1 l2 l3 l4 l5 l6 l7 l8 : Option Value} {v0 v1 v2 : Value} {m : jmM} {Q : Option Value → jmM → Prop} : AW d 238 37 [l0, l1, l2, l3, l4, l5, l6, l7, l8] [v0, v1, v2] m Q ↔ AW d 238 40 [l0, l1, l2, l3, l4, l5, l6, l7, l8] [.int 999, v0, v1, v2] m Q := A_sipush hB_X12_minute dX12_minute_37 rfl
theorem dX12_minute_40 : decode cX12_minute 40 = .ok (.invokevirtual 328, 3) := by decide +kernel
theorem tX12_minute_40 {d : Nat} {l0 l1 l2 l3 l4 l5 l6 l7 l8 : Option Value} {y0 y1 y2 : Value} {a : Nat} {m : jmM} {Q : Option Value → jmM → Prop} : AW d 238 40 [l0, l1, l2, l3, l4, l5, l6, l7, l8] [y0, y1, y2, .ref a] m Q ↔ (mS m a).1 = 12 ∧ CC d 236 [.ref a, y2, y1, y0] m (jK d 238 43 [l0, l1, l2, l3, l4, l5, l6, l7, l8] [] Q) := A_callV hB_X12_minute dX12_minute_40 hO_X12_minute fS_12_328 ⟨Nat.le_of_ble_eq_true rfl, Nat.le_of_ble_eq_true rfl⟩ rfl rfl rfl
theorem dX12_minute_43 : decode cX12_minute 43 = .ok (.istore_n 3, 1) := by decide +kernel
theorem tX12_minute_43 {d : Nat} {l0 l1 l2 l3 l4 l5 l6 l7 l8 : Option Value} {x : Int32} {m : jmM} {Q : Option Value → jmM → Prop} : AW d 238 43 [l0, l1, l2, l3, l4, l5, l6, l7, l8] [.int x] m Q ↔ AW d 238 44 [l0, l1, jc1 l2, some (.int x), l4, l5, l6, l7, l8] [] m Q := A_istore_n hB_X12_minute dX12_minute_43 (Nat.le_of_ble_eq_true rfl) rfl
theorem dX12_minute_44 : decode cX12_minute 44 = .ok (.aload_n 0, 1) := by decide +kernel
theorem tX12_minute_44 {d : Nat} {l1 l2 l3 l4 l5 l6 l7 l8 : Option Value} {x : Nat} {m : jmM} {Q : Option Value → jmM → Prop} : AW d 238 44 [some (.ref x), l1, l2, l3, l4, l5, l6, l7, l8] [] m Q ↔ AW d 238 45 [some (.ref x), l1, l2, l3, l4, l5, l6, l7, l8] [.ref x] m Q := A_aload_n hB_X12_minute dX12_minute_44 rfl
theorem dX12_minute_45 : decode cX12_minute 45 = .ok (.iload_n 2, 1) := by decide +kernel
theorem tX12_minute_45 {d : Nat} {l0 l1 l3 l4 l5 l6 l7 l8 : Option Value} {v0 : Value} {x : Int32} {m : jmM} {Q : Option Value → jmM → Prop} : AW d 238 45 [l0, l1, some (.int x), l3, l4, l5, l6, l7, l8] [v0] m Q ↔ AW d 238 46 [l0, l1, some (.int x), l3, l4, l5, l6, l7, l8] [.int x, v0] m Q := A_iload_n hB_X12_minute dX12_minute_45 rfl
theorem dX12_minute_46 : decode cX12_minute 46 = .ok (.iload_n 3, 1) := by decide +kernel
theorem tX12_minute_46 {d : Nat} {l0 l1 l2 l4 l5 l6 l7 l8 : Option Value} {v0 v1 : Value} {x : Int32} {m : jmM} {Q : Option Value → jmM → Prop} : AW d 238 46 [l0, l1, l2, some (.int x), l4, l5, l6, l7, l8] [v0, v1] m Q ↔ AW d 238 47 [l0, l1, l2, some (.int x), l4, l5, l6, l7, l8] [.int x, v0, v1] m Q := A_iload_n hB_X12_minute dX12_minute_46 rfl
theorem dX12_minute_47 : decode cX12_minute 47 = .ok (.invokevirtual 332, 3) := by decide +kernel
theorem tX12_minute_47 {d : Nat} {l0 l1 l2 l3 l4 l5 l6 l7 l8 : Option Value} {y0 y1 : Value} {a : Nat} {m : jmM} {Q : Option Value → jmM → Prop} : AW d 238 47 [l0, l1, l2, l3, l4, l5, l6, l7, l8] [y0, y1, .ref a] m Q ↔ (mS m a).1 = 12 ∧ CC d 237 [.ref a, y1, y0] m (jK d 238 50 [l0, l1, l2, l3, l4, l5, l6, l7, l8] [] Q) := A_callV hB_X12_minute dX12_minute_47 hO_X12_minute fS_12_332 ⟨Nat.le_of_ble_eq_true rfl, Nat.le_of_ble_eq_true rfl⟩ rfl rfl rfl
theorem dX12_minute_50 : decode cX12_minute 50 = .ok (.aload_n 0, 1) := by decide +kernel
theorem tX12_minute_50 {d : Nat} {l1 l2 l3 l4 l5 l6 l7 l8 : Option Value} {x : Nat} {m : jmM} {Q : Option Value → jmM → Prop} : AW d 238 50 [some (.ref x), l1, l2, l3, l4, l5, l6, l7, l8] [] m Q ↔ AW d 238 51 [some (.ref x), l1, l2, l3, l4, l5, l6, l7, l8] [.ref x] m Q := A_aload_n hB_X12_minute dX12_minute_50 rfl
theorem dX12_minute_51 : decode cX12_minute 51 = .ok (.getfield 51, 3) := by decide +kernel
theorem tX12_minute_51 {d : Nat} {l0 l1 l2 l3 l4 l5 l6 l7 l8 : Option Value} {a : Nat} {m : jmM} {Q : Option Value → jmM → Prop} : AW d 238 51 [l0, l1, l2, l3, l4, l5, l6, l7, l8] [.ref a] m Q ↔ (mS m a).1 = 12 ∧ AW d 238 54 [l0, l1, l2, l3, l4, l5, l6, l7, l8] [va_rf (mR m a 25)] m Q := A_getfield (f := fun m a => va_rf (mR m a 25)) hB_X12_minute dX12_minute_51 hO_X12_minute fF_12_51 rfl
theorem dX12_minute_54 : decode cX12_minute 54 = .ok (.bipush 12, 2) := by decide +kernel
theorem tX12_minute_54 {d : Nat} {l0 l1 l2 l3 l4 l5 l6 l7 l8 : Option Value} {v0 : Value} {m : jmM} {Q : Option Value → jmM → Prop} : AW d 238 54 [l0, l1, l2, l3, l4, l5, l6, l7, l8] [v0] m Q ↔ AW d 238 56 [l0, l1, l2, l3, l4, l5, l6, l7, l8] [.int 12, v0] m Q := A_bipush hB_X12_minute dX12_minute_54 rfl
theorem dX12_minute_56 : decode cX12_minute 56 = .ok (.iload_n 2, 1) := by decide +kernel
theorem tX12_minute_56 {d : Nat} {l0 l1 l3 l4 l5 l6 l7 l8 : Option Value} {v0 v1 : Value} {x : Int32} {m : jmM} {Q : Option Value → jmM → Prop} : AW d 238 56 [l0, l1, some (.int x), l3, l4, l5, l6, l7, l8] [v0, v1] m Q ↔ AW d 238 57 [l0, l1, some (.int x), l3, l4, l5, l6, l7, l8] [.int x, v0, v1] m Q := A_iload_n hB_X12_minute dX12_minute_56 rfl
theorem dX12_minute_57 : decode cX12_minute 57 = .ok (.iastore, 1) := by decide +kernel
theorem tX12_minute_57 {d : Nat} {l0 l1 l2 l3 l4 l5 l6 l7 l8 : Option Value} {x i : Int32} {a : Nat} {m : jmM} {Q : Option Value → jmM → Prop} : AW d 238 57 [l0, l1, l2, l3, l4, l5, l6, l7, l8] [.int x, .int i, .ref a] m Q ↔ ((mS m a).1 = 20 ∧ jIx i (mS m a).2) ∧ AW d 238 58 [l0, l1, l2, l3, l4, l5, l6, l7, l8] [] (cI m a (jup (mI m a) (jx i) x)) Q := A_iastore hB_X12_minute dX12_minute_57
theorem dX12_minute_58 : decode cX12_minute 58 = .ok (.aload_n 0, 1) := by decide +kernel
theorem tX12_minute_58 {d : Nat} {l1 l2 l3 l4 l5 l6 l7 l8 : Option Value} {x : Nat} {m : jmM} {Q : Option Value → jmM → Prop} : AW d 238 58 [some (.ref x), l1, l2, l3, l4, l5, l6, l7, l8] [] m Q ↔ AW d 238 59 [some (.ref x), l1, l2, l3, l4, l5, l6, l7, l8] [.ref x] m Q := A_aload_n hB_X12_minute dX12_minute_58 rfl
theorem dX12_minute_59 : decode cX12_minute 59 = .ok (.getfield 51, 3) := by decide +kernel
theorem tX12_minute_59 {d : Nat} {l0 l1 l2 l3 l4 l5 l6 l7 l8 : Option Value} {a : Nat} {m : jmM} {Q : Option Value → jmM → Prop} : AW d 238 59 [l0, l1, l2, l3, l4, l5, l6, l7, l8] [.ref a] m Q ↔ (mS m a).1 = 12 ∧ AW d 238 62 [l0, l1, l2, l3, l4, l5, l6, l7, l8] [va_rf (mR m a 25)] m Q := A_getfield (f := fun m a => va_rf (mR m a 25)) hB_X12_minute dX12_minute_59 hO_X12_minute fF_12_51 rfl
theorem dX12_minute_62 : decode cX12_minute 62 = .ok (.bipush 11, 2) := by decide +kernel
theorem tX12_minute_62 {d : Nat} {l0 l1 l2 l3 l4 l5 l6 l7 l8 : Option Value} {v0 : Value} {m : jmM} {Q : Option Value → jmM → Prop} : AW d 238 62 [l0, l1, l2, l3, l4, l5, l6, l7, l8] [v0] m Q ↔ AW d 238 64 [l0, l1, l2, l3, l4, l5, l6, l7, l8] [.int 11, v0] m Q := A_bipush hB_X12_minute dX12_minute_62 rfl
theorem dX12_minute_64 : decode cX12_minute 64 = .ok (.iload_n 3, 1) := by decide +kernel
theorem tX12_minute_64 {d : Nat} {l0 l1 l2 l4 l5 l6 l7 l8 : Option Value} {v0 v1 : Value} {x : Int32} {m : jmM} {Q : Option Value → jmM → Prop} : AW d 238 64 [l0, l1, l2, some (.int x), l4, l5, l6, l7, l8] [v0, v1] m Q ↔ AW d 238 65 [l0, l1, l2, some (.int x), l4, l5, l6, l7, l8] [.int x, v0, v1] m Q := A_iload_n hB_X12_minute dX12_minute_64 rfl
theorem dX12_minute_65 : decode cX12_minute 65 = .ok (.iastore, 1) := by decide +kernel
theorem tX12_minute_65 {d : Nat} {l0 l1 l2 l3 l4 l5 l6 l7 l8 : Option Value} {x i : Int32} {a : Nat} {m : jmM} {Q : Option Value → jmM → Prop} : AW d 238 65 [l0, l1, l2, l3, l4, l5, l6, l7, l8] [.int x, .int i, .ref a] m Q ↔ ((mS m a).1 = 20 ∧ jIx i (mS m a).2) ∧ AW d 238 66 [l0, l1, l2, l3, l4, l5, l6, l7, l8] [] (cI m a (jup (mI m a) (jx i) x)) Q := A_iastore hB_X12_minute dX12_minute_65
theorem dX12_minute_66 : decode cX12_minute 66 = .ok (.aload_n 0, 1) := by decide +kernel
theorem tX12_minute_66 {d : Nat} {l1 l2 l3 l4 l5 l6 l7 l8 : Option Value} {x : Nat} {m : jmM} {Q : Option Value → jmM → Prop} : AW d 238 66 [some (.ref x), l1, l2, l3, l4, l5, l6, l7, l8] [] m Q ↔ AW d 238 67 [some (.ref x), l1, l2, l3, l4, l5, l6, l7, l8] [.ref x] m Q := A_aload_n hB_X12_minute dX12_minute_66 rfl
theorem dX12_minute_67 : decode cX12_minute 67 = .ok (.getfield 54, 3) := by decide +kernel
theorem tX12_minute_67 {d : Nat} {l0 l1 l2 l3 l4 l5 l6 l7 l8 : Option Value} {a : Nat} {m : jmM} {Q : Option Value → jmM → Prop} : AW d 238 67 [l0, l1, l2, l3, l4, l5, l6, l7, l8] [.ref a] m Q ↔ (mS m a).1 = 12 ∧ AW d 238 70 [l0, l1, l2, l3, l4, l5, l6, l7, l8] [va_rf (mR m a 26)] m Q := A_getfield (f := fun m a => va_rf (mR m a 26)) hB_X12_minute dX12_minute_67 hO_X12_minute fF_12_54 rfl
theorem dX12_minute_70 : decode cX12_minute 70 = .ok (.iconst 5, 1) := by decide +kernel
theorem tX12_minute_70 {d : Nat} {l0 l1 l2 l3 l4 l5 l6 l7 l8 : Option Value} {v0 : Value} {m : jmM} {Q : Option Value → jmM → Prop} : AW d 238 70 [l0, l1, l2, l3, l4, l5, l6, l7, l8] [v0] m Q ↔ AW d 238 71 [l0, l1, l2, l3, l4, l5, l6, l7, l8] [.int 5, v0] m Q := A_iconst hB_X12_minute dX12_minute_70 (by decide)
theorem dX12_minute_71 : decode cX12_minute 71 = .ok (.dup2, 1) := by decide +kernel
theorem tX12_minute_71 {d : Nat} {l0 l1 l2 l3 l4 l5 l6 l7 l8 : Option Value} {x : Int32} {y : Nat} {m : jmM} {Q : Option Value → jmM → Prop} : AW d 238 71 [l0, l1, l2, l3, l4, l5, l6, l7, l8] [.int x, .ref y] m Q ↔ AW d 238 72 [l0, l1, l2, l3, l4, l5, l6, l7, l8] [.int x, .ref y, .int x, .ref y] m Q := A_dup2_ia hB_X12_minute dX12_minute_71
theorem dX12_minute_72 : decode cX12_minute 72 = .ok (.laload, 1) := by decide +kernel
theorem tX12_minute_72 {d : Nat} {l0 l1 l2 l3 l4 l5 l6 l7 l8 : Option Value} {v2 v3 : Value} {i : Int32} {a : Nat} {m : jmM} {Q : Option Value → jmM → Prop} : AW d 238 72 [l0, l1, l2, l3, l4, l5, l6, l7, l8] [.int i, .ref a, v2, v3] m Q ↔ ((mS m a).1 = 21 ∧ jIx i (mS m a).2) ∧ AW d 238 73 [l0, l1, l2, l3, l4, l5, l6, l7, l8] [.long (mL m a (jx i)), v2, v3] m Q := A_laload hB_X12_minute dX12_minute_72
theorem dX12_minute_73 : decode cX12_minute 73 = .ok (.aload_n 0, 1) := by decide +kernel
theorem tX12_minute_73 {d : Nat} {l1 l2 l3 l4 l5 l6 l7 l8 : Option Value} {v0 v1 v2 : Value} {x : Nat} {m : jmM} {Q : Option Value → jmM → Prop} : AW d 238 73 [some (.ref x), l1, l2, l3, l4, l5, l6, l7, l8] [v0, v1, v2] m Q ↔ AW d 238 74 [some (.ref x), l1, l2, l3, l4, l5, l6, l7, l8] [.ref x, v0, v1, v2] m Q := A_aload_n hB_X12_minute dX12_minute_73 rfl
theorem dX12_minute_74 : decode cX12_minute 74 = .ok (.getfield 32, 3) := by decide +kernel
theorem tX12_minute_74 {d : Nat} {l0 l1 l2 l3 l4 l5 l6 l7 l8 : Option Value} {v1 v2 v3 : Value} {a : Nat} {m : jmM} {Q : Option Value → jmM → Prop} : AW d 238 74 [l0, l1, l2, l3, l4, l5, l6, l7, l8] [.ref a, v1, v2, v3] m Q ↔ (mS m a).1 = 12 ∧ AW d 238 77 [l0, l1, l2, l3, l4, l5, l6, l7, l8] [va_rf (mR m a 8), v1, v2, v3] m Q := A_getfield (f := fun m a => va_rf (mR m a 8)) hB_X12_minute dX12_minute_74 hO_X12_minute fF_12_32 rfl
theorem dX12_minute_77 : decode cX12_minute 77 = .ok (.aload_n 0, 1) := by decide +kernel
theorem tX12_minute_77 {d : Nat} {l1 l2 l3 l4 l5 l6 l7 l8 : Option Value} {v0 v1 v2 v3 : Value} {x : Nat} {m : jmM} {Q : Option Value → jmM → Prop} : AW d 238 77 [some (.ref x), l1, l2, l3, l4, l5, l6, l7, l8] [v0, v1, v2, v3] m Q ↔ AW d 238 78 [some (.ref x), l1, l2, l3, l4, l5, l6, l7, l8] [.ref x, v0, v1, v2, v3] m Q := A_aload_n hB_X12_minute dX12_minute_77 rfl
theorem dX12_minute_78 : decode cX12_minute 78 = .ok (.getfield 51, 3) := by decide +kernel
theorem tX12_minute_78 {d : Nat} {l0 l1 l2 l3 l4 l5 l6 l7 l8 : Option Value} {v1 v2 v3 v4 : Value} {a : Nat} {m : jmM} {Q : Option Value → jmM → Prop} : AW d 238 78 [l0, l1, l2, l3, l4, l5, l6, l7, l8] [.ref a, v1, v2, v3, v4] m Q ↔ (mS m a).1 = 12 ∧ AW d 238 81 [l0, l1, l2, l3, l4, l5, l6, l7, l8] [va_rf (mR m a 25), v1, v2, v3, v4] m Q := A_getfield (f := fun m a => va_rf (mR m a 25)) hB_X12_minute dX12_minute_78 hO_X12_minute fF_12_51 rfl
theorem dX12_minute_81 : decode cX12_minute 81 = .ok (.iconst 1, 1) := by decide +kernel
theorem tX12_minute_81 {d : Nat} {l0 l1 l2 l3 l4 l5 l6 l7 l8 : Option Value} {v0 v1 v2 v3 v4 : Value} {m : jmM} {Q : Option Value → jmM → Prop} : AW d 238 81 [l0, l1, l2, l3, l4, l5, l6, l7, l8] [v0, v1, v2, v3, v4] m Q ↔ AW d 238 82 [l0, l1, l2, l3, l4, l5, l6, l7, l8] [.int 1, v0, v1, v2, v3, v4] m Q := A_iconst hB_X12_minute dX12_minute_81 (by decide)
theorem dX12_minute_82 : decode cX12_minute 82 = .ok (.iaload, 1) := by decide +kernel
theorem tX12_minute_82 {d : Nat} {l0 l1 l2 l3 l4 l5 l6 l7 l8 : Option Value} {v2 v3 v4 v5 : Value} {i : Int32} {a : Nat} {m : jmM} {Q : Option Value → jmM → Prop} : AW d 238 82 [l0, l1, l2, l3, l4, l5, l6, l7, l8] [.int i, .ref a, v2, v3, v4, v5] m Q ↔ (((mS m a).1 = 20 ∨ a = jScr) ∧ jIx i (mS m a).2) ∧ AW d 238 83 [l0, l1, l2, l3, l4, l5, l6, l7, l8] [.int (mI m a (jx i)), v2, v3, v4, v5] m Q := A_iaload hB_X12_minute dX12_minute_82
theorem dX12_minute_83 : decode cX12_minute 83 = .ok (.iaload, 1) := by decide +kernel
theorem tX12_minute_83 {d : Nat} {l0 l1 l2 l3 l4 l5 l6 l7 l8 : Option Value} {v2 v3 v4 : Value} {i : Int32} {a : Nat} {m : jmM} {Q : Option Value → jmM → Prop} : AW d 238 83 [l0, l1, l2, l3, l4, l5, l6, l7, l8] [.int i, .ref a, v2, v3, v4] m Q ↔ (((mS m a).1 = 20 ∨ a = jScr) ∧ jIx i (mS m a).2) ∧ AW d 238 84 [l0, l1, l2, l3, l4, l5, l6, l7, l8] [.int (mI m a (jx i)), v2, v3, v4] m Q := A_iaload hB_X12_minute dX12_minute_83
theorem dX12_minute_84 : decode cX12_minute 84 = .ok (.i2l, 1) := by decide +kernel
theorem tX12_minute_84 {d : Nat} {l0 l1 l2 l3 l4 l5 l6 l7 l8 : Option Value} {v1 v2 v3 : Value} {x : Int32} {m : jmM} {Q : Option Value → jmM → Prop} : AW d 238 84 [l0, l1, l2, l3, l4, l5, l6, l7, l8] [.int x, v1, v2, v3] m Q ↔ AW d 238 85 [l0, l1, l2, l3, l4, l5, l6, l7, l8] [.long x.toInt64, v1, v2, v3] m Q := A_i2l hB_X12_minute dX12_minute_84
theorem dX12_minute_85 : decode cX12_minute 85 = .ok (.ladd, 1) := by decide +kernel
theorem tX12_minute_85 {d : Nat} {l0 l1 l2 l3 l4 l5 l6 l7 l8 : Option Value} {v2 v3 : Value} {x y : Int64} {m : jmM} {Q : Option Value → jmM → Prop} : AW d 238 85 [l0, l1, l2, l3, l4, l5, l6, l7, l8] [.long y, .long x, v2, v3] m Q ↔ AW d 238 86 [l0, l1, l2, l3, l4, l5, l6, l7, l8] [.long (x + y), v2, v3] m Q := A_ladd hB_X12_minute dX12_minute_85
theorem dX12_minute_86 : decode cX12_minute 86 = .ok (.lastore, 1) := by decide +kernel
theorem tX12_minute_86 {d : Nat} {l0 l1 l2 l3 l4 l5 l6 l7 l8 : Option Value} {x : Int64} {i : Int32} {a : Nat} {m : jmM} {Q : Option Value → jmM → Prop} : AW d 238 86 [l0, l1, l2, l3, l4, l5, l6, l7, l8] [.long x, .int i, .ref a] m Q ↔ ((mS m a).1 = 21 ∧ jIx i (mS m a).2) ∧ AW d 238 87 [l0, l1, l2, l3, l4, l5, l6, l7, l8] [] (cL m a (jup (mL m a) (jx i) x)) Q := A_lastore hB_X12_minute dX12_minute_86
theorem dX12_minute_87 : decode cX12_minute 87 = .ok (.iload_n 2, 1) := by decide +kernel
theorem tX12_minute_87 {d : Nat} {l0 l1 l3 l4 l5 l6 l7 l8 : Option Value} {x : Int32} {m : jmM} {Q : Option Value → jmM → Prop} : AW d 238 87 [l0, l1, some (.int x), l3, l4, l5, l6, l7, l8] [] m Q ↔ AW d 238 88 [l0, l1, some (.int x), l3, l4, l5, l6, l7, l8] [.int x] m Q := A_iload_n hB_X12_minute dX12_minute_87 rfl
theorem dX12_minute_88 : decode cX12_minute 88 = .ok (.i2l, 1) := by decide +kernel
theorem tX12_minute_88 {d : Nat} {l0 l1 l2 l3 l4 l5 l6 l7 l8 : Option Value} {x : Int32} {m : jmM} {Q : Option Value → jmM → Prop} : AW d 238 88 [l0, l1, l2, l3, l4, l5, l6, l7, l8] [.int x] m Q ↔ AW d 238 89 [l0, l1, l2, l3, l4, l5, l6, l7, l8] [.long x.toInt64] m Q := A_i2l hB_X12_minute dX12_minute_88
theorem dX12_minute_89 : decode cX12_minute 89 = .ok (.aload_n 0, 1) := by decide +kernel
theorem tX12_minute_89 {d : Nat} {l1 l2 l3 l4 l5 l6 l7 l8 : Option Value} {v0 : Value} {x : Nat} {m : jmM} {Q : Option Value → jmM → Prop} : AW d 238 89 [some (.ref x), l1, l2, l3, l4, l5, l6, l7, l8] [v0] m Q ↔ AW d 238 90 [some (.ref x), l1, l2, l3, l4, l5, l6, l7, l8] [.ref x, v0] m Q := A_aload_n hB_X12_minute dX12_minute_89 rfl
theorem dX12_minute_90 : decode cX12_minute 90 = .ok (.getfield 51, 3) := by decide +kernel
theorem tX12_minute_90 {d : Nat} {l0 l1 l2 l3 l4 l5 l6 l7 l8 : Option Value} {v1 : Value} {a : Nat} {m : jmM} {Q : Option Value → jmM → Prop} : AW d 238 90 [l0, l1, l2, l3, l4, l5, l6, l7, l8] [.ref a, v1] m Q ↔ (mS m a).1 = 12 ∧ AW d 238 93 [l0, l1, l2, l3, l4, l5, l6, l7, l8] [va_rf (mR m a 25), v1] m Q := A_getfield (f := fun m a => va_rf (mR m a 25)) hB_X12_minute dX12_minute_90 hO_X12_minute fF_12_51 rfl
theorem dX12_minute_93 : decode cX12_minute 93 = .ok (.bipush 10, 2) := by decide +kernel
theorem tX12_minute_93 {d : Nat} {l0 l1 l2 l3 l4 l5 l6 l7 l8 : Option Value} {v0 v1 : Value} {m : jmM} {Q : Option Value → jmM → Prop} : AW d 238 93 [l0, l1, l2, l3, l4, l5, l6, l7, l8] [v0, v1] m Q ↔ AW d 238 95 [l0, l1, l2, l3, l4, l5, l6, l7, l8] [.int 10, v0, v1] m Q := A_bipush hB_X12_minute dX12_minute_93 rfl
theorem dX12_minute_95 : decode cX12_minute 95 = .ok (.iaload, 1) := by decide +kernel
theorem tX12_minute_95 {d : Nat} {l0 l1 l2 l3 l4 l5 l6 l7 l8 : Option Value} {v2 : Value} {i : Int32} {a : Nat} {m : jmM} {Q : Option Value → jmM → Prop} : AW d 238 95 [l0, l1, l2, l3, l4, l5, l6, l7, l8] [.int i, .ref a, v2] m Q ↔ (((mS m a).1 = 20 ∨ a = jScr) ∧ jIx i (mS m a).2) ∧ AW d 238 96 [l0, l1, l2, l3, l4, l5, l6, l7, l8] [.int (mI m a (jx i)), v2] m Q := A_iaload hB_X12_minute dX12_minute_95
theorem dX12_minute_96 : decode cX12_minute 96 = .ok (.i2l, 1) := by decide +kernel
theorem tX12_minute_96 {d : Nat} {l0 l1 l2 l3 l4 l5 l6 l7 l8 : Option Value} {v1 : Value} {x : Int32} {m : jmM} {Q : Option Value → jmM → Prop} : AW d 238 96 [l0, l1, l2, l3, l4, l5, l6, l7, l8] [.int x, v1] m Q ↔ AW d 238 97 [l0, l1, l2, l3, l4, l5, l6, l7, l8] [.long x.toInt64, v1] m Q := A_i2l hB_X12_minute dX12_minute_96
theorem dX12_minute_97 : decode cX12_minute 97 = .ok (.lmul, 1) := by decide +kernel
theorem tX12_minute_97 {d : Nat} {l0 l1 l2 l3 l4 l5 l6 l7 l8 : Option Value} {x y : Int64} {m : jmM} {Q : Option Value → jmM → Prop} : AW d 238 97 [l0, l1, l2, l3, l4, l5, l6, l7, l8] [.long y, .long x] m Q ↔ AW d 238 98 [l0, l1, l2, l3, l4, l5, l6, l7, l8] [.long (x * y)] m Q := A_lmul hB_X12_minute dX12_minute_97
theorem dX12_minute_98 : decode cX12_minute 98 = .ok (.aload_n 0, 1) := by decide +kernel
theorem tX12_minute_98 {d : Nat} {l1 l2 l3 l4 l5 l6 l7 l8 : Option Value} {v0 : Value} {x : Nat} {m : jmM} {Q : Option Value → jmM → Prop} : AW d 238 98 [some (.ref x), l1, l2, l3, l4, l5, l6, l7, l8] [v0] m Q ↔ AW d 238 99 [some (.ref x), l1, l2, l3, l4, l5, l6, l7, l8] [.ref x, v0] m Q := A_aload_n hB_X12_minute dX12_minute_98 rfl
theorem dX12_minute_99 : decode cX12_minute 99 = .ok (.getfield 51, 3) := by decide +kernel
theorem tX12_minute_99 {d : Nat} {l0 l1 l2 l3 l4 l5 l6 l7 l8 : Option Value} {v1 : Value} {a : Nat} {m : jmM} {Q : Option Value → jmM → Prop} : AW d 238 99 [l0, l1, l2, l3, l4, l5, l6, l7, l8] [.ref a, v1] m Q ↔ (mS m a).1 = 12 ∧ AW d 238 102 [l0, l1, l2, l3, l4, l5, l6, l7, l8] [va_rf (mR m a 25), v1] m Q := A_getfield (f := fun m a => va_rf (mR m a 25)) hB_X12_minute dX12_minute_99 hO_X12_minute fF_12_51 rfl
theorem dX12_minute_102 : decode cX12_minute 102 = .ok (.bipush 10, 2) := by decide +kernel
theorem tX12_minute_102 {d : Nat} {l0 l1 l2 l3 l4 l5 l6 l7 l8 : Option Value} {v0 v1 : Value} {m : jmM} {Q : Option Value → jmM → Prop} : AW d 238 102 [l0, l1, l2, l3, l4, l5, l6, l7, l8] [v0, v1] m Q ↔ AW d 238 104 [l0, l1, l2, l3, l4, l5, l6, l7, l8] [.int 10, v0, v1] m Q := A_bipush hB_X12_minute dX12_minute_102 rfl
theorem dX12_minute_104 : decode cX12_minute 104 = .ok (.iaload, 1) := by decide +kernel
theorem tX12_minute_104 {d : Nat} {l0 l1 l2 l3 l4 l5 l6 l7 l8 : Option Value} {v2 : Value} {i : Int32} {a : Nat} {m : jmM} {Q : Option Value → jmM → Prop} : AW d 238 104 [l0, l1, l2, l3, l4, l5, l6, l7, l8] [.int i, .ref a, v2] m Q ↔ (((mS m a).1 = 20 ∨ a = jScr) ∧ jIx i (mS m a).2) ∧ AW d 238 105 [l0, l1, l2, l3, l4, l5, l6, l7, l8] [.int (mI m a (jx i)), v2] m Q := A_iaload hB_X12_minute dX12_minute_104
theorem dX12_minute_105 : decode cX12_minute 105 = .ok (.i2l, 1) := by decide +kernel
theorem tX12_minute_105 {d : Nat} {l0 l1 l2 l3 l4 l5 l6 l7 l8 : Option Value} {v1 : Value} {x : Int32} {m : jmM} {Q : Option Value → jmM → Prop} : AW d 238 105 [l0, l1, l2, l3, l4, l5, l6, l7, l8] [.int x, v1] m Q ↔ AW d 238 106 [l0, l1, l2, l3, l4, l5, l6, l7, l8] [.long x.toInt64, v1] m Q := A_i2l hB_X12_minute dX12_minute_105
theorem dX12_minute_106 : decode cX12_minute 106 = .ok (.lmul, 1) := by decide +kernel
theorem tX12_minute_106 {d : Nat} {l0 l1 l2 l3 l4 l5 l6 l7 l8 : Option Value} {x y : Int64} {m : jmM} {Q : Option Value → jmM → Prop} : AW d 238 106 [l0, l1, l2, l3, l4, l5, l6, l7, l8] [.long y, .long x] m Q ↔ AW d 238 107 [l0, l1, l2, l3, l4, l5, l6, l7, l8] [.long (x * y)] m Q := A_lmul hB_X12_minute dX12_minute_106
theorem dX12_minute_107 : decode cX12_minute 107 = .ok (.ldc2_w 335, 3) := by decide +kernel
theorem tX12_minute_107 {d : Nat} {l0 l1 l2 l3 l4 l5 l6 l7 l8 : Option Value} {v0 : Value} {m : jmM} {Q : Option Value → jmM → Prop} : AW d 238 107 [l0, l1, l2, l3, l4, l5, l6, l7, l8] [v0] m Q ↔ AW d 238 110 [l0, l1, l2, l3, l4, l5, l6, l7, l8] [.long 100000, v0] m Q := A_ldc2_w hB_X12_minute dX12_minute_107 hO_X12_minute fL2_12_335
theorem dX12_minute_110 : decode cX12_minute 110 = .ok (.ldiv, 1) := by decide +kernel
theorem tX12_minute_110 {d : Nat} {l0 l1 l2 l3 l4 l5 l6 l7 l8 : Option Value} {x y : Int64} {m : jmM} {Q : Option Value → jmM → Prop} : AW d 238 110 [l0, l1, l2, l3, l4, l5, l6, l7, l8] [.long y, .long x] m Q ↔ ¬ y = 0 ∧ AW d 238 111 [l0, l1, l2, l3, l4, l5, l6, l7, l8] [.long (x / y)] m Q := A_ldiv hB_X12_minute dX12_minute_110
theorem dX12_minute_111 : decode cX12_minute 111 = .ok (.lconst 0, 1) := by decide +kernel
theorem tX12_minute_111 {d : Nat} {l0 l1 l2 l3 l4 l5 l6 l7 l8 : Option Value} {v0 : Value} {m : jmM} {Q : Option Value → jmM → Prop} : AW d 238 111 [l0, l1, l2, l3, l4, l5, l6, l7, l8] [v0] m Q ↔ AW d 238 112 [l0, l1, l2, l3, l4, l5, l6, l7, l8] [.long 0, v0] m Q := A_lconst hB_X12_minute dX12_minute_111 (by decide)
theorem dX12_minute_112 : decode cX12_minute 112 = .ok (.aload_n 0, 1) := by decide +kernel
theorem tX12_minute_112 {d : Nat} {l1 l2 l3 l4 l5 l6 l7 l8 : Option Value} {v0 v1 : Value} {x : Nat} {m : jmM} {Q : Option Value → jmM → Prop} : AW d 238 112 [some (.ref x), l1, l2, l3, l4, l5, l6, l7, l8] [v0, v1] m Q ↔ AW d 238 113 [some (.ref x), l1, l2, l3, l4, l5, l6, l7, l8] [.ref x, v0, v1] m Q := A_aload_n hB_X12_minute dX12_minute_112 rfl
theorem dX12_minute_113 : decode cX12_minute 113 = .ok (.getfield 51, 3) := by decide +kernel
theorem tX12_minute_113 {d : Nat} {l0 l1 l2 l3 l4 l5 l6 l7 l8 : Option Value} {v1 v2 : Value} {a : Nat} {m : jmM} {Q : Option Value → jmM → Prop} : AW d 238 113 [l0, l1, l2, l3, l4, l5, l6, l7, l8] [.ref a, v1, v2] m Q ↔ (mS m a).1 = 12 ∧ AW d 238 116 [l0, l1, l2, l3, l4, l5, l6, l7, l8] [va_rf (mR m a 25), v1, v2] m Q := A_getfield (f := fun m a => va_rf (mR m a 25)) hB_X12_minute dX12_minute_113 hO_X12_minute fF_12_51 rfl
theorem dX12_minute_116 : decode cX12_minute 116 = .ok (.bipush 9, 2) := by decide +kernel
theorem tX12_minute_116 {d : Nat} {l0 l1 l2 l3 l4 l5 l6 l7 l8 : Option Value} {v0 v1 v2 : Value} {m : jmM} {Q : Option Value → jmM → Prop} : AW d 238 116 [l0, l1, l2, l3, l4, l5, l6, l7, l8] [v0, v1, v2] m Q ↔ AW d 238 118 [l0, l1, l2, l3, l4, l5, l6, l7, l8] [.int 9, v0, v1, v2] m Q := A_bipush hB_X12_minute dX12_minute_116 rfl
theorem dX12_minute_118 : decode cX12_minute 118 = .ok (.iaload, 1) := by decide +kernel
theorem tX12_minute_118 {d : Nat} {l0 l1 l2 l3 l4 l5 l6 l7 l8 : Option Value} {v2 v3 : Value} {i : Int32} {a : Nat} {m : jmM} {Q : Option Value → jmM → Prop} : AW d 238 118 [l0, l1, l2, l3, l4, l5, l6, l7, l8] [.int i, .ref a, v2, v3] m Q ↔ (((mS m a).1 = 20 ∨ a = jScr) ∧ jIx i (mS m a).2) ∧ AW d 238 119 [l0, l1, l2, l3, l4, l5, l6, l7, l8] [.int (mI m a (jx i)), v2, v3] m Q := A_iaload hB_X12_minute dX12_minute_118
theorem dX12_minute_119 : decode cX12_minute 119 = .ok (.i2l, 1) := by decide +kernel
theorem tX12_minute_119 {d : Nat} {l0 l1 l2 l3 l4 l5 l6 l7 l8 : Option Value} {v1 v2 : Value} {x : Int32} {m : jmM} {Q : Option Value → jmM → Prop} : AW d 238 119 [l0, l1, l2, l3, l4, l5, l6, l7, l8] [.int x, v1, v2] m Q ↔ AW d 238 120 [l0, l1, l2, l3, l4, l5, l6, l7, l8] [.long x.toInt64, v1, v2] m Q := A_i2l hB_X12_minute dX12_minute_119
theorem dX12_minute_120 : decode cX12_minute 120 = .ok (.invokestatic 309, 3) := by decide +kernel
theorem tX12_minute_120 {d : Nat} {l0 l1 l2 l3 l4 l5 l6 l7 l8 : Option Value} {y0 y1 y2 : Value} {m : jmM} {Q : Option Value → jmM → Prop} : AW d 238 120 [l0, l1, l2, l3, l4, l5, l6, l7, l8] [y0, y1, y2] m Q ↔ CC d 190 [y2, y1, y0] m (jK d 238 123 [l0, l1, l2, l3, l4, l5, l6, l7, l8] [] Q) := A_callS0 hB_X12_minute dX12_minute_120 hO_X12_minute fS_12_309 ⟨Nat.le_of_ble_eq_true rfl, Nat.le_of_ble_eq_true rfl⟩ rfl rfl
theorem dX12_minute_123 : decode cX12_minute 123 = .ok (.lstore 4, 2) := by decide +kernel
theorem tX12_minute_123 {d : Nat} {l0 l1 l2 l3 l4 l5 l6 l7 l8 : Option Value} {x : Int64} {m : jmM} {Q : Option Value → jmM → Prop} : AW d 238 123 [l0, l1, l2, l3, l4, l5, l6, l7, l8] [.long x] m Q ↔ AW d 238 125 [l0, l1, l2, jc1 l3, some (.long x), none, l6, l7, l8] [] m Q := A_lstore hB_X12_minute dX12_minute_123 (Nat.le_of_ble_eq_true rfl) rfl
theorem dX12_minute_125 : decode cX12_minute 125 = .ok (.aload_n 0, 1) := by decide +kernel
theorem tX12_minute_125 {d : Nat} {l1 l2 l3 l4 l5 l6 l7 l8 : Option Value} {x : Nat} {m : jmM} {Q : Option Value → jmM → Prop} : AW d 238 125 [some (.ref x), l1, l2, l3, l4, l5, l6, l7, l8] [] m Q ↔ AW d 238 126 [some (.ref x), l1, l2, l3, l4, l5, l6, l7, l8] [.ref x] m Q := A_aload_n hB_X12_minute dX12_minute_125 rfl
theorem dX12_minute_126 : decode cX12_minute 126 = .ok (.getfield 63, 3) := by decide +kernel
theorem tX12_minute_126 {d : Nat} {l0 l1 l2 l3 l4 l5 l6 l7 l8 : Option Value} {a : Nat} {m : jmM} {Q : Option Value → jmM → Prop} : AW d 238 126 [l0, l1, l2, l3, l4, l5, l6, l7, l8] [.ref a] m Q ↔ (mS m a).1 = 12 ∧ AW d 238 129 [l0, l1, l2, l3, l4, l5, l6, l7, l8] [va_rf (mR m a 29)] m Q := A_getfield (f := fun m a => va_rf (mR m a 29)) hB_X12_minute dX12_minute_126 hO_X12_minute fF_12_63 rfl
theorem dX12_minute_129 : decode cX12_minute 129 = .ok (.bipush 6, 2) := by decide +kernel
theorem tX12_minute_129 {d : Nat} {l0 l1 l2 l3 l4 l5 l6 l7 l8 : Option Value} {v0 : Value} {m : jmM} {Q : Option Value → jmM → Prop} : AW d 238 129 [l0, l1, l2, l3, l4, l5, l6, l7, l8] [v0] m Q ↔ AW d 238 131 [l0, l1, l2, l3, l4, l5, l6, l7, l8] [.int 6, v0] m Q := A_bipush hB_X12_minute dX12_minute_129 rfl
theorem dX12_minute_131 : decode cX12_minute 131 = .ok (.iload_n 1, 1) := by decide +kernel
theorem tX12_minute_131 {d : Nat} {l0 l2 l3 l4 l5 l6 l7 l8 : Option Value} {v0 v1 : Value} {x : Int32} {m : jmM} {Q : Option Value → jmM → Prop} : AW d 238 131 [l0, some (.int x), l2, l3, l4, l5, l6, l7, l8] [v0, v1] m Q ↔ AW d 238 132 [l0, some (.int x), l2, l3, l4, l5, l6, l7, l8] [.int x, v0, v1] m Q := A_iload_n hB_X12_minute dX12_minute_131 rfl
theorem dX12_minute_132 : decode cX12_minute 132 = .ok (.imul, 1) := by decide +kernel
theorem tX12_minute_132 {d : Nat} {l0 l1 l2 l3 l4 l5 l6 l7 l8 : Option Value} {v2 : Value} {x y : Int32} {m : jmM} {Q : Option Value → jmM → Prop} : AW d 238 132 [l0, l1, l2, l3, l4, l5, l6, l7, l8] [.int y, .int x, v2] m Q ↔ AW d 238 133 [l0, l1, l2, l3, l4, l5, l6, l7, l8] [.int (x * y), v2] m Q := A_imul hB_X12_minute dX12_minute_132
theorem dX12_minute_133 : decode cX12_minute 133 = .ok (.aload_n 0, 1) := by decide +kernel
theorem tX12_minute_133 {d : Nat} {l1 l2 l3 l4 l5 l6 l7 l8 : Option Value} {v0 v1 : Value} {x : Nat} {m : jmM} {Q : Option Value → jmM → Prop} : AW d 238 133 [some (.ref x), l1, l2, l3, l4, l5, l6, l7, l8] [v0, v1] m Q ↔ AW d 238 134 [some (.ref x), l1, l2, l3, l4, l5, l6, l7, l8] [.ref x, v0, v1] m Q := A_aload_n hB_X12_minute dX12_minute_133 rfl
theorem dX12_minute_134 : decode cX12_minute 134 = .ok (.getfield 51, 3) := by decide +kernel
theorem tX12_minute_134 {d : Nat} {l0 l1 l2 l3 l4 l5 l6 l7 l8 : Option Value} {v1 v2 : Value} {a : Nat} {m : jmM} {Q : Option Value → jmM → Prop} : AW d 238 134 [l0, l1, l2, l3, l4, l5, l6, l7, l8] [.ref a, v1, v2] m Q ↔ (mS m a).1 = 12 ∧ AW d 238 137 [l0, l1, l2, l3, l4, l5, l6, l7, l8] [va_rf (mR m a 25), v1, v2] m Q := A_getfield (f := fun m a => va_rf (mR m a 25)) hB_X12_minute dX12_minute_134 hO_X12_minute fF_12_51 rfl
theorem dX12_minute_137 : decode cX12_minute 137 = .ok (.bipush 10, 2) := by decide +kernel
theorem tX12_minute_137 {d : Nat} {l0 l1 l2 l3 l4 l5 l6 l7 l8 : Option Value} {v0 v1 v2 : Value} {m : jmM} {Q : Option Value → jmM → Prop} : AW d 238 137 [l0, l1, l2, l3, l4, l5, l6, l7, l8] [v0, v1, v2] m Q ↔ AW d 238 139 [l0, l1, l2, l3, l4, l5, l6, l7, l8] [.int 10, v0, v1, v2] m Q := A_bipush hB_X12_minute dX12_minute_137 rfl
theorem dX12_minute_139 : decode cX12_minute 139 = .ok (.iaload, 1) := by decide +kernel
theorem tX12_minute_139 {d : Nat} {l0 l1 l2 l3 l4 l5 l6 l7 l8 : Option Value} {v2 v3 : Value} {i : Int32} {a : Nat} {m : jmM} {Q : Option Value → jmM → Prop} : AW d 238 139 [l0, l1, l2, l3, l4, l5, l6, l7, l8] [.int i, .ref a, v2, v3] m Q ↔ (((mS m a).1 = 20 ∨ a = jScr) ∧ jIx i (mS m a).2) ∧ AW d 238 140 [l0, l1, l2, l3, l4, l5, l6, l7, l8] [.int (mI m a (jx i)), v2, v3] m Q := A_iaload hB_X12_minute dX12_minute_139
theorem dX12_minute_140 : decode cX12_minute 140 = .ok (.iastore, 1) := by decide +kernel
theorem tX12_minute_140 {d : Nat} {l0 l1 l2 l3 l4 l5 l6 l7 l8 : Option Value} {x i : Int32} {a : Nat} {m : jmM} {Q : Option Value → jmM → Prop} : AW d 238 140 [l0, l1, l2, l3, l4, l5, l6, l7, l8] [.int x, .int i, .ref a] m Q ↔ ((mS m a).1 = 20 ∧ jIx i (mS m a).2) ∧ AW d 238 141 [l0, l1, l2, l3, l4, l5, l6, l7, l8] [] (cI m a (jup (mI m a) (jx i) x)) Q := A_iastore hB_X12_minute dX12_minute_140
theorem dX12_minute_141 : decode cX12_minute 141 = .ok (.aload_n 0, 1) := by decide +kernel
theorem tX12_minute_141 {d : Nat} {l1 l2 l3 l4 l5 l6 l7 l8 : Option Value} {x : Nat} {m : jmM} {Q : Option Value → jmM → Prop} : AW d 238 141 [some (.ref x), l1, l2, l3, l4, l5, l6, l7, l8] [] m Q ↔ AW d 238 142 [some (.ref x), l1, l2, l3, l4, l5, l6, l7, l8] [.ref x] m Q := A_aload_n hB_X12_minute dX12_minute_141 rfl
theorem dX12_minute_142 : decode cX12_minute 142 = .ok (.getfield 63, 3) := by decide +kernel
theorem tX12_minute_142 {d : Nat} {l0 l1 l2 l3 l4 l5 l6 l7 l8 : Option Value} {a : Nat} {m : jmM} {Q : Option Value → jmM → Prop} : AW d 238 142 [l0, l1, l2, l3, l4, l5, l6, l7, l8] [.ref a] m Q ↔ (mS m a).1 = 12 ∧ AW d 238 145 [l0, l1, l2, l3, l4, l5, l6, l7, l8] [va_rf (mR m a 29)] m Q := A_getfield (f := fun m a => va_rf (mR m a 29)) hB_X12_minute dX12_minute_142 hO_X12_minute fF_12_63 rfl
theorem dX12_minute_145 : decode cX12_minute 145 = .ok (.bipush 6, 2) := by decide +kernel
theorem tX12_minute_145 {d : Nat} {l0 l1 l2 l3 l4 l5 l6 l7 l8 : Option Value} {v0 : Value} {m : jmM} {Q : Option Value → jmM → Prop} : AW d 238 145 [l0, l1, l2, l3, l4, l5, l6, l7, l8] [v0] m Q ↔ AW d 238 147 [l0, l1, l2, l3, l4, l5, l6, l7, l8] [.int 6, v0] m Q := A_bipush hB_X12_minute dX12_minute_145 rfl
theorem dX12_minute_147 : decode cX12_minute 147 = .ok (.iload_n 1, 1) := by decide +kernel
theorem tX12_minute_147 {d : Nat} {l0 l2 l3 l4 l5 l6 l7 l8 : Option Value} {v0 v1 : Value} {x : Int32} {m : jmM} {Q : Option Value → jmM → Prop} : AW d 238 147 [l0, some (.int x), l2, l3, l4, l5, l6, l7, l8] [v0, v1] m Q ↔ AW d 238 148 [l0, some (.int x), l2, l3, l4, l5, l6, l7, l8] [.int x, v0, v1] m Q := A_iload_n hB_X12_minute dX12_minute_147 rfl
theorem dX12_minute_148 : decode cX12_minute 148 = .ok (.imul, 1) := by decide +kernel
theorem tX12_minute_148 {d : Nat} {l0 l1 l2 l3 l4 l5 l6 l7 l8 : Option Value} {v2 : Value} {x y : Int32} {m : jmM} {Q : Option Value → jmM → Prop} : AW d 238 148 [l0, l1, l2, l3, l4, l5, l6, l7, l8] [.int y, .int x, v2] m Q ↔ AW d 238 149 [l0, l1, l2, l3, l4, l5, l6, l7, l8] [.int (x * y), v2] m Q := A_imul hB_X12_minute dX12_minute_148
theorem dX12_minute_149 : decode cX12_minute 149 = .ok (.iconst 1, 1) := by decide +kernel
theorem tX12_minute_149 {d : Nat} {l0 l1 l2 l3 l4 l5 l6 l7 l8 : Option Value} {v0 v1 : Value} {m : jmM} {Q : Option Value → jmM → Prop} : AW d 238 149 [l0, l1, l2, l3, l4, l5, l6, l7, l8] [v0, v1] m Q ↔ AW d 238 150 [l0, l1, l2, l3, l4, l5, l6, l7, l8] [.int 1, v0, v1] m Q := A_iconst hB_X12_minute dX12_minute_149 (by decide)
theorem dX12_minute_150 : decode cX12_minute 150 = .ok (.iadd, 1) := by decide +kernel
theorem tX12_minute_150 {d : Nat} {l0 l1 l2 l3 l4 l5 l6 l7 l8 : Option Value} {v2 : Value} {x y : Int32} {m : jmM} {Q : Option Value → jmM → Prop} : AW d 238 150 [l0, l1, l2, l3, l4, l5, l6, l7, l8] [.int y, .int x, v2] m Q ↔ AW d 238 151 [l0, l1, l2, l3, l4, l5, l6, l7, l8] [.int (x + y), v2] m Q := A_iadd hB_X12_minute dX12_minute_150
theorem dX12_minute_151 : decode cX12_minute 151 = .ok (.iload_n 3, 1) := by decide +kernel
theorem tX12_minute_151 {d : Nat} {l0 l1 l2 l4 l5 l6 l7 l8 : Option Value} {v0 v1 : Value} {x : Int32} {m : jmM} {Q : Option Value → jmM → Prop} : AW d 238 151 [l0, l1, l2, some (.int x), l4, l5, l6, l7, l8] [v0, v1] m Q ↔ AW d 238 152 [l0, l1, l2, some (.int x), l4, l5, l6, l7, l8] [.int x, v0, v1] m Q := A_iload_n hB_X12_minute dX12_minute_151 rfl
theorem dX12_minute_152 : decode cX12_minute 152 = .ok (.iastore, 1) := by decide +kernel
theorem tX12_minute_152 {d : Nat} {l0 l1 l2 l3 l4 l5 l6 l7 l8 : Option Value} {x i : Int32} {a : Nat} {m : jmM} {Q : Option Value → jmM → Prop} : AW d 238 152 [l0, l1, l2, l3, l4, l5, l6, l7, l8] [.int x, .int i, .ref a] m Q ↔ ((mS m a).1 = 20 ∧ jIx i (mS m a).2) ∧ AW d 238 153 [l0, l1, l2, l3, l4, l5, l6, l7, l8] [] (cI m a (jup (mI m a) (jx i) x)) Q := A_iastore hB_X12_minute dX12_minute_152
theorem dX12_minute_153 : decode cX12_minute 153 = .ok (.aload_n 0, 1) := by decide +kernel
theorem tX12_minute_153 {d : Nat} {l1 l2 l3 l4 l5 l6 l7 l8 : Option Value} {x : Nat} {m : jmM} {Q : Option Value → jmM → Prop} : AW d 238 153 [some (.ref x), l1, l2, l3, l4, l5, l6, l7, l8] [] m Q ↔ AW d 238 154 [some (.ref x), l1, l2, l3, l4, l5, l6, l7, l8] [.ref x] m Q := A_aload_n hB_X12_minute dX12_minute_153 rfl
theorem dX12_minute_154 : decode cX12_minute 154 = .ok (.getfield 63, 3) := by decide +kernel
theorem tX12_minute_154 {d : Nat} {l0 l1 l2 l3 l4 l5 l6 l7 l8 : Option Value} {a : Nat} {m : jmM} {Q : Option Value → jmM → Prop} : AW d 238 154 [l0, l1, l2, l3, l4, l5, l6, l7, l8] [.ref a] m Q ↔ (mS m a).1 = 12 ∧ AW d 238 157 [l0, l1, l2, l3, l4, l5, l6, l7, l8] [va_rf (mR m a 29)] m Q := A_getfield (f := fun m a => va_rf (mR m a 29)) hB_X12_minute dX12_minute_154 hO_X12_minute fF_12_63 rfl
theorem dX12_minute_157 : decode cX12_minute 157 = .ok (.bipush 6, 2) := by decide +kernel
theorem tX12_minute_157 {d : Nat} {l0 l1 l2 l3 l4 l5 l6 l7 l8 : Option Value} {v0 : Value} {m : jmM} {Q : Option Value → jmM → Prop} : AW d 238 157 [l0, l1, l2, l3, l4, l5, l6, l7, l8] [v0] m Q ↔ AW d 238 159 [l0, l1, l2, l3, l4, l5, l6, l7, l8] [.int 6, v0] m Q := A_bipush hB_X12_minute dX12_minute_157 rfl
theorem dX12_minute_159 : decode cX12_minute 159 = .ok (.iload_n 1, 1) := by decide +kernel
theorem tX12_minute_159 {d : Nat} {l0 l2 l3 l4 l5 l6 l7 l8 : Option Value} {v0 v1 : Value} {x : Int32} {m : jmM} {Q : Option Value → jmM → Prop} : AW d 238 159 [l0, some (.int x), l2, l3, l4, l5, l6, l7, l8] [v0, v1] m Q ↔ AW d 238 160 [l0, some (.int x), l2, l3, l4, l5, l6, l7, l8] [.int x, v0, v1] m Q := A_iload_n hB_X12_minute dX12_minute_159 rfl
theorem dX12_minute_160 : decode cX12_minute 160 = .ok (.imul, 1) := by decide +kernel
theorem tX12_minute_160 {d : Nat} {l0 l1 l2 l3 l4 l5 l6 l7 l8 : Option Value} {v2 : Value} {x y : Int32} {m : jmM} {Q : Option Value → jmM → Prop} : AW d 238 160 [l0, l1, l2, l3, l4, l5, l6, l7, l8] [.int y, .int x, v2] m Q ↔ AW d 238 161 [l0, l1, l2, l3, l4, l5, l6, l7, l8] [.int (x * y), v2] m Q := A_imul hB_X12_minute dX12_minute_160
theorem dX12_minute_161 : decode cX12_minute 161 = .ok (.iconst 2, 1) := by decide +kernel
theorem tX12_minute_161 {d : Nat} {l0 l1 l2 l3 l4 l5 l6 l7 l8 : Option Value} {v0 v1 : Value} {m : jmM} {Q : Option Value → jmM → Prop} : AW d 238 161 [l0, l1, l2, l3, l4, l5, l6, l7, l8] [v0, v1] m Q ↔ AW d 238 162 [l0, l1, l2, l3, l4, l5, l6, l7, l8] [.int 2, v0, v1] m Q := A_iconst hB_X12_minute dX12_minute_161 (by decide)
theorem dX12_minute_162 : decode cX12_minute 162 = .ok (.iadd, 1) := by decide +kernel
theorem tX12_minute_162 {d : Nat} {l0 l1 l2 l3 l4 l5 l6 l7 l8 : Option Value} {v2 : Value} {x y : Int32} {m : jmM} {Q : Option Value → jmM → Prop} : AW d 238 162 [l0, l1, l2, l3, l4, l5, l6, l7, l8] [.int y, .int x, v2] m Q ↔ AW d 238 163 [l0, l1, l2, l3, l4, l5, l6, l7, l8] [.int (x + y), v2] m Q := A_iadd hB_X12_minute dX12_minute_162
theorem dX12_minute_163 : decode cX12_minute 163 = .ok (.iload_n 2, 1) := by decide +kernel
theorem tX12_minute_163 {d : Nat} {l0 l1 l3 l4 l5 l6 l7 l8 : Option Value} {v0 v1 : Value} {x : Int32} {m : jmM} {Q : Option Value → jmM → Prop} : AW d 238 163 [l0, l1, some (.int x), l3, l4, l5, l6, l7, l8] [v0, v1] m Q ↔ AW d 238 164 [l0, l1, some (.int x), l3, l4, l5, l6, l7, l8] [.int x, v0, v1] m Q := A_iload_n hB_X12_minute dX12_minute_163 rfl
theorem dX12_minute_164 : decode cX12_minute 164 = .ok (.iastore, 1) := by decide +kernel
theorem tX12_minute_164 {d : Nat} {l0 l1 l2 l3 l4 l5 l6 l7 l8 : Option Value} {x i : Int32} {a : Nat} {m : jmM} {Q : Option Value → jmM → Prop} : AW d 238 164 [l0, l1, l2, l3, l4, l5, l6, l7, l8] [.int x, .int i, .ref a] m Q ↔ ((mS m a).1 = 20 ∧ jIx i (mS m a).2) ∧ AW d 238 165 [l0, l1, l2, l3, l4, l5, l6, l7, l8] [] (cI m a (jup (mI m a) (jx i) x)) Q := A_iastore hB_X12_minute dX12_minute_164
theorem dX12_minute_165 : decode cX12_minute 165 = .ok (.aload_n 0, 1) := by decide +kernel
theorem tX12_minute_165 {d : Nat} {l1 l2 l3 l4 l5 l6 l7 l8 : Option Value} {x : Nat} {m : jmM} {Q : Option Value → jmM → Prop} : AW d 238 165 [some (.ref x), l1, l2, l3, l4, l5, l6, l7, l8] [] m Q ↔ AW d 238 166 [some (.ref x), l1, l2, l3, l4, l5, l6, l7, l8] [.ref x] m Q := A_aload_n hB_X12_minute dX12_minute_165 rfl
theorem dX12_minute_166 : decode cX12_minute 166 = .ok (.getfield 63, 3) := by decide +kernel
theorem tX12_minute_166 {d : Nat} {l0 l1 l2 l3 l4 l5 l6 l7 l8 : Option Value} {a : Nat} {m : jmM} {Q : Option Value → jmM → Prop} : AW d 238 166 [l0, l1, l2, l3, l4, l5, l6, l7, l8] [.ref a] m Q ↔ (mS m a).1 = 12 ∧ AW d 238 169 [l0, l1, l2, l3, l4, l5, l6, l7, l8] [va_rf (mR m a 29)] m Q := A_getfield (f := fun m a => va_rf (mR m a 29)) hB_X12_minute dX12_minute_166 hO_X12_minute fF_12_63 rfl
theorem dX12_minute_169 : decode cX12_minute 169 = .ok (.bipush 6, 2) := by decide +kernel
theorem tX12_minute_169 {d : Nat} {l0 l1 l2 l3 l4 l5 l6 l7 l8 : Option Value} {v0 : Value} {m : jmM} {Q : Option Value → jmM → Prop} : AW d 238 169 [l0, l1, l2, l3, l4, l5, l6, l7, l8] [v0] m Q ↔ AW d 238 171 [l0, l1, l2, l3, l4, l5, l6, l7, l8] [.int 6, v0] m Q := A_bipush hB_X12_minute dX12_minute_169 rfl
theorem dX12_minute_171 : decode cX12_minute 171 = .ok (.iload_n 1, 1) := by decide +kernel
theorem tX12_minute_171 {d : Nat} {l0 l2 l3 l4 l5 l6 l7 l8 : Option Value} {v0 v1 : Value} {x : Int32} {m : jmM} {Q : Option Value → jmM → Prop} : AW d 238 171 [l0, some (.int x), l2, l3, l4, l5, l6, l7, l8] [v0, v1] m Q ↔ AW d 238 172 [l0, some (.int x), l2, l3, l4, l5, l6, l7, l8] [.int x, v0, v1] m Q := A_iload_n hB_X12_minute dX12_minute_171 rfl
theorem dX12_minute_172 : decode cX12_minute 172 = .ok (.imul, 1) := by decide +kernel
theorem tX12_minute_172 {d : Nat} {l0 l1 l2 l3 l4 l5 l6 l7 l8 : Option Value} {v2 : Value} {x y : Int32} {m : jmM} {Q : Option Value → jmM → Prop} : AW d 238 172 [l0, l1, l2, l3, l4, l5, l6, l7, l8] [.int y, .int x, v2] m Q ↔ AW d 238 173 [l0, l1, l2, l3, l4, l5, l6, l7, l8] [.int (x * y), v2] m Q := A_imul hB_X12_minute dX12_minute_172
theorem dX12_minute_173 : decode cX12_minute 173 = .ok (.iconst 3, 1) := by decide +kernel
theorem tX12_minute_173 {d : Nat} {l0 l1 l2 l3 l4 l5 l6 l7 l8 : Option Value} {v0 v1 : Value} {m : jmM} {Q : Option Value → jmM → Prop} : AW d 238 173 [l0, l1, l2, l3, l4, l5, l6, l7, l8] [v0, v1] m Q ↔ AW d 238 174 [l0, l1, l2, l3, l4, l5, l6, l7, l8] [.int 3, v0, v1] m Q := A_iconst hB_X12_minute dX12_minute_173 (by decide)
theorem dX12_minute_174 : decode cX12_minute 174 = .ok (.iadd, 1) := by decide +kernel
theorem tX12_minute_174 {d : Nat} {l0 l1 l2 l3 l4 l5 l6 l7 l8 : Option Value} {v2 : Value} {x y : Int32} {m : jmM} {Q : Option Value → jmM → Prop} : AW d 238 174 [l0, l1, l2, l3, l4, l5, l6, l7, l8] [.int y, .int x, v2] m Q ↔ AW d 238 175 [l0, l1, l2, l3, l4, l5, l6, l7, l8] [.int (x + y), v2] m Q := A_iadd hB_X12_minute dX12_minute_174
theorem dX12_minute_175 : decode cX12_minute 175 = .ok (.lload 4, 2) := by decide +kernel
theorem tX12_minute_175 {d : Nat} {l0 l1 l2 l3 l5 l6 l7 l8 : Option Value} {v0 v1 : Value} {x : Int64} {m : jmM} {Q : Option Value → jmM → Prop} : AW d 238 175 [l0, l1, l2, l3, some (.long x), l5, l6, l7, l8] [v0, v1] m Q ↔ AW d 238 177 [l0, l1, l2, l3, some (.long x), l5, l6, l7, l8] [.long x, v0, v1] m Q := A_lload hB_X12_minute dX12_minute_175 rfl
theorem dX12_minute_177 : decode cX12_minute 177 = .ok (.l2i, 1) := by decide +kernel
theorem tX12_minute_177 {d : Nat} {l0 l1 l2 l3 l4 l5 l6 l7 l8 : Option Value} {v1 v2 : Value} {x : Int64} {m : jmM} {Q : Option Value → jmM → Prop} : AW d 238 177 [l0, l1, l2, l3, l4, l5, l6, l7, l8] [.long x, v1, v2] m Q ↔ AW d 238 178 [l0, l1, l2, l3, l4, l5, l6, l7, l8] [.int x.toInt32, v1, v2] m Q := A_l2i hB_X12_minute dX12_minute_177
theorem dX12_minute_178 : decode cX12_minute 178 = .ok (.iastore, 1) := by decide +kernel
theorem tX12_minute_178 {d : Nat} {l0 l1 l2 l3 l4 l5 l6 l7 l8 : Option Value} {x i : Int32} {a : Nat} {m : jmM} {Q : Option Value → jmM → Prop} : AW d 238 178 [l0, l1, l2, l3, l4, l5, l6, l7, l8] [.int x, .int i, .ref a] m Q ↔ ((mS m a).1 = 20 ∧ jIx i (mS m a).2) ∧ AW d 238 179 [l0, l1, l2, l3, l4, l5, l6, l7, l8] [] (cI m a (jup (mI m a) (jx i) x)) Q := A_iastore hB_X12_minute dX12_minute_178
theorem dX12_minute_179 : decode cX12_minute 179 = .ok (.aload_n 0, 1) := by decide +kernel
theorem tX12_minute_179 {d : Nat} {l1 l2 l3 l4 l5 l6 l7 l8 : Option Value} {x : Nat} {m : jmM} {Q : Option Value → jmM → Prop} : AW d 238 179 [some (.ref x), l1, l2, l3, l4, l5, l6, l7, l8] [] m Q ↔ AW d 238 180 [some (.ref x), l1, l2, l3, l4, l5, l6, l7, l8] [.ref x] m Q := A_aload_n hB_X12_minute dX12_minute_179 rfl
theorem dX12_minute_180 : decode cX12_minute 180 = .ok (.getfield 63, 3) := by decide +kernel
theorem tX12_minute_180 {d : Nat} {l0 l1 l2 l3 l4 l5 l6 l7 l8 : Option Value} {a : Nat} {m : jmM} {Q : Option Value → jmM → Prop} : AW d 238 180 [l0, l1, l2, l3, l4, l5, l6, l7, l8] [.ref a] m Q ↔ (mS m a).1 = 12 ∧ AW d 238 183 [l0, l1, l2, l3, l4, l5, l6, l7, l8] [va_rf (mR m a 29)] m Q := A_getfield (f := fun m a => va_rf (mR m a 29)) hB_X12_minute dX12_minute_180 hO_X12_minute fF_12_63 rfl
theorem dX12_minute_183 : decode cX12_minute 183 = .ok (.bipush 6, 2) := by decide +kernel
theorem tX12_minute_183 {d : Nat} {l0 l1 l2 l3 l4 l5 l6 l7 l8 : Option Value} {v0 : Value} {m : jmM} {Q : Option Value → jmM → Prop} : AW d 238 183 [l0, l1, l2, l3, l4, l5, l6, l7, l8] [v0] m Q ↔ AW d 238 185 [l0, l1, l2, l3, l4, l5, l6, l7, l8] [.int 6, v0] m Q := A_bipush hB_X12_minute dX12_minute_183 rfl
theorem dX12_minute_185 : decode cX12_minute 185 = .ok (.iload_n 1, 1) := by decide +kernel
theorem tX12_minute_185 {d : Nat} {l0 l2 l3 l4 l5 l6 l7 l8 : Option Value} {v0 v1 : Value} {x : Int32} {m : jmM} {Q : Option Value → jmM → Prop} : AW d 238 185 [l0, some (.int x), l2, l3, l4, l5, l6, l7, l8] [v0, v1] m Q ↔ AW d 238 186 [l0, some (.int x), l2, l3, l4, l5, l6, l7, l8] [.int x, v0, v1] m Q := A_iload_n hB_X12_minute dX12_minute_185 rfl
theorem dX12_minute_186 : decode cX12_minute 186 = .ok (.imul, 1) := by decide +kernel
theorem tX12_minute_186 {d : Nat} {l0 l1 l2 l3 l4 l5 l6 l7 l8 : Option Value} {v2 : Value} {x y : Int32} {m : jmM} {Q : Option Value → jmM → Prop} : AW d 238 186 [l0, l1, l2, l3, l4, l5, l6, l7, l8] [.int y, .int x, v2] m Q ↔ AW d 238 187 [l0, l1, l2, l3, l4, l5, l6, l7, l8] [.int (x * y), v2] m Q := A_imul hB_X12_minute dX12_minute_186
theorem dX12_minute_187 : decode cX12_minute 187 = .ok (.iconst 4, 1) := by decide +kernel
theorem tX12_minute_187 {d : Nat} {l0 l1 l2 l3 l4 l5 l6 l7 l8 : Option Value} {v0 v1 : Value} {m : jmM} {Q : Option Value → jmM → Prop} : AW d 238 187 [l0, l1, l2, l3, l4, l5, l6, l7, l8] [v0, v1] m Q ↔ AW d 238 188 [l0, l1, l2, l3, l4, l5, l6, l7, l8] [.int 4, v0, v1] m Q := A_iconst hB_X12_minute dX12_minute_187 (by decide)
theorem dX12_minute_188 : decode cX12_minute 188 = .ok (.iadd, 1) := by decide +kernel
theorem tX12_minute_188 {d : Nat} {l0 l1 l2 l3 l4 l5 l6 l7 l8 : Option Value} {v2 : Value} {x y : Int32} {m : jmM} {Q : Option Value → jmM → Prop} : AW d 238 188 [l0, l1, l2, l3, l4, l5, l6, l7, l8] [.int y, .int x, v2] m Q ↔ AW d 238 189 [l0, l1, l2, l3, l4, l5, l6, l7, l8] [.int (x + y), v2] m Q := A_iadd hB_X12_minute dX12_minute_188
theorem dX12_minute_189 : decode cX12_minute 189 = .ok (.aload_n 0, 1) := by decide +kernel
theorem tX12_minute_189 {d : Nat} {l1 l2 l3 l4 l5 l6 l7 l8 : Option Value} {v0 v1 : Value} {x : Nat} {m : jmM} {Q : Option Value → jmM → Prop} : AW d 238 189 [some (.ref x), l1, l2, l3, l4, l5, l6, l7, l8] [v0, v1] m Q ↔ AW d 238 190 [some (.ref x), l1, l2, l3, l4, l5, l6, l7, l8] [.ref x, v0, v1] m Q := A_aload_n hB_X12_minute dX12_minute_189 rfl
theorem dX12_minute_190 : decode cX12_minute 190 = .ok (.getfield 51, 3) := by decide +kernel
theorem tX12_minute_190 {d : Nat} {l0 l1 l2 l3 l4 l5 l6 l7 l8 : Option Value} {v1 v2 : Value} {a : Nat} {m : jmM} {Q : Option Value → jmM → Prop} : AW d 238 190 [l0, l1, l2, l3, l4, l5, l6, l7, l8] [.ref a, v1, v2] m Q ↔ (mS m a).1 = 12 ∧ AW d 238 193 [l0, l1, l2, l3, l4, l5, l6, l7, l8] [va_rf (mR m a 25), v1, v2] m Q := A_getfield (f := fun m a => va_rf (mR m a 25)) hB_X12_minute dX12_minute_190 hO_X12_minute fF_12_51 rfl
theorem dX12_minute_193 : decode cX12_minute 193 = .ok (.bipush 9, 2) := by decide +kernel
theorem tX12_minute_193 {d : Nat} {l0 l1 l2 l3 l4 l5 l6 l7 l8 : Option Value} {v0 v1 v2 : Value} {m : jmM} {Q : Option Value → jmM → Prop} : AW d 238 193 [l0, l1, l2, l3, l4, l5, l6, l7, l8] [v0, v1, v2] m Q ↔ AW d 238 195 [l0, l1, l2, l3, l4, l5, l6, l7, l8] [.int 9, v0, v1, v2] m Q := A_bipush hB_X12_minute dX12_minute_193 rfl
theorem dX12_minute_195 : decode cX12_minute 195 = .ok (.iaload, 1) := by decide +kernel
theorem tX12_minute_195 {d : Nat} {l0 l1 l2 l3 l4 l5 l6 l7 l8 : Option Value} {v2 v3 : Value} {i : Int32} {a : Nat} {m : jmM} {Q : Option Value → jmM → Prop} : AW d 238 195 [l0, l1, l2, l3, l4, l5, l6, l7, l8] [.int i, .ref a, v2, v3] m Q ↔ (((mS m a).1 = 20 ∨ a = jScr) ∧ jIx i (mS m a).2) ∧ AW d 238 196 [l0, l1, l2, l3, l4, l5, l6, l7, l8] [.int (mI m a (jx i)), v2, v3] m Q := A_iaload hB_X12_minute dX12_minute_195
theorem dX12_minute_196 : decode cX12_minute 196 = .ok (.iastore, 1) := by decide +kernel
theorem tX12_minute_196 {d : Nat} {l0 l1 l2 l3 l4 l5 l6 l7 l8 : Option Value} {x i : Int32} {a : Nat} {m : jmM} {Q : Option Value → jmM → Prop} : AW d 238 196 [l0, l1, l2, l3, l4, l5, l6, l7, l8] [.int x, .int i, .ref a] m Q ↔ ((mS m a).1 = 20 ∧ jIx i (mS m a).2) ∧ AW d 238 197 [l0, l1, l2, l3, l4, l5, l6, l7, l8] [] (cI m a (jup (mI m a) (jx i) x)) Q := A_iastore hB_X12_minute dX12_minute_196
theorem dX12_minute_197 : decode cX12_minute 197 = .ok (.aload_n 0, 1) := by decide +kernel
theorem tX12_minute_197 {d : Nat} {l1 l2 l3 l4 l5 l6 l7 l8 : Option Value} {x : Nat} {m : jmM} {Q : Option Value → jmM → Prop} : AW d 238 197 [some (.ref x), l1, l2, l3, l4, l5, l6, l7, l8] [] m Q ↔ AW d 238 198 [some (.ref x), l1, l2, l3, l4, l5, l6, l7, l8] [.ref x] m Q := A_aload_n hB_X12_minute dX12_minute_197 rfl
theorem dX12_minute_198 : decode cX12_minute 198 = .ok (.getfield 63, 3) := by decide +kernel
theorem tX12_minute_198 {d : Nat} {l0 l1 l2 l3 l4 l5 l6 l7 l8 : Option Value} {a : Nat} {m : jmM} {Q : Option Value → jmM → Prop} : AW d 238 198 [l0, l1, l2, l3, l4, l5, l6, l7, l8] [.ref a] m Q ↔ (mS m a).1 = 12 ∧ AW d 238 201 [l0, l1, l2, l3, l4, l5, l6, l7, l8] [va_rf (mR m a 29)] m Q := A_getfield (f := fun m a => va_rf (mR m a 29)) hB_X12_minute dX12_minute_198 hO_X12_minute fF_12_63 rfl
theorem dX12_minute_201 : decode cX12_minute 201 = .ok (.bipush 6, 2) := by decide +kernel
theorem tX12_minute_201 {d : Nat} {l0 l1 l2 l3 l4 l5 l6 l7 l8 : Option Value} {v0 : Value} {m : jmM} {Q : Option Value → jmM → Prop} : AW d 238 201 [l0, l1, l2, l3, l4, l5, l6, l7, l8] [v0] m Q ↔ AW d 238 203 [l0, l1, l2, l3, l4, l5, l6, l7, l8] [.int 6, v0] m Q := A_bipush hB_X12_minute dX12_minute_201 rfl
theorem dX12_minute_203 : decode cX12_minute 203 = .ok (.iload_n 1, 1) := by decide +kernel
theorem tX12_minute_203 {d : Nat} {l0 l2 l3 l4 l5 l6 l7 l8 : Option Value} {v0 v1 : Value} {x : Int32} {m : jmM} {Q : Option Value → jmM → Prop} : AW d 238 203 [l0, some (.int x), l2, l3, l4, l5, l6, l7, l8] [v0, v1] m Q ↔ AW d 238 204 [l0, some (.int x), l2, l3, l4, l5, l6, l7, l8] [.int x, v0, v1] m Q := A_iload_n hB_X12_minute dX12_minute_203 rfl
theorem dX12_minute_204 : decode cX12_minute 204 = .ok (.imul, 1) := by decide +kernel
theorem tX12_minute_204 {d : Nat} {l0 l1 l2 l3 l4 l5 l6 l7 l8 : Option Value} {v2 : Value} {x y : Int32} {m : jmM} {Q : Option Value → jmM → Prop} : AW d 238 204 [l0, l1, l2, l3, l4, l5, l6, l7, l8] [.int y, .int x, v2] m Q ↔ AW d 238 205 [l0, l1, l2, l3, l4, l5, l6, l7, l8] [.int (x * y), v2] m Q := A_imul hB_X12_minute dX12_minute_204
theorem dX12_minute_205 : decode cX12_minute 205 = .ok (.iconst 5, 1) := by decide +kernel
theorem tX12_minute_205 {d : Nat} {l0 l1 l2 l3 l4 l5 l6 l7 l8 : Option Value} {v0 v1 : Value} {m : jmM} {Q : Option Value → jmM → Prop} : AW d 238 205 [l0, l1, l2, l3, l4, l5, l6, l7, l8] [v0, v1] m Q ↔ AW d 238 206 [l0, l1, l2, l3, l4, l5, l6, l7, l8] [.int 5, v0, v1] m Q := A_iconst hB_X12_minute dX12_minute_205 (by decide)
theorem dX12_minute_206 : decode cX12_minute 206 = .ok (.iadd, 1) := by decide +kernel
theorem tX12_minute_206 {d : Nat} {l0 l1 l2 l3 l4 l5 l6 l7 l8 : Option Value} {v2 : Value} {x y : Int32} {m : jmM} {Q : Option Value → jmM → Prop} : AW d 238 206 [l0, l1, l2, l3, l4, l5, l6, l7, l8] [.int y, .int x, v2] m Q ↔ AW d 238 207 [l0, l1, l2, l3, l4, l5, l6, l7, l8] [.int (x + y), v2] m Q := A_iadd hB_X12_minute dX12_minute_206
theorem dX12_minute_207 : decode cX12_minute 207 = .ok (.iconst 0, 1) := by decide +kernel
theorem tX12_minute_207 {d : Nat} {l0 l1 l2 l3 l4 l5 l6 l7 l8 : Option Value} {v0 v1 : Value} {m : jmM} {Q : Option Value → jmM → Prop} : AW d 238 207 [l0, l1, l2, l3, l4, l5, l6, l7, l8] [v0, v1] m Q ↔ AW d 238 208 [l0, l1, l2, l3, l4, l5, l6, l7, l8] [.int 0, v0, v1] m Q := A_iconst hB_X12_minute dX12_minute_207 (by decide)
theorem dX12_minute_208 : decode cX12_minute 208 = .ok (.iastore, 1) := by decide +kernel
theorem tX12_minute_208 {d : Nat} {l0 l1 l2 l3 l4 l5 l6 l7 l8 : Option Value} {x i : Int32} {a : Nat} {m : jmM} {Q : Option Value → jmM → Prop} : AW d 238 208 [l0, l1, l2, l3, l4, l5, l6, l7, l8] [.int x, .int i, .ref a] m Q ↔ ((mS m a).1 = 20 ∧ jIx i (mS m a).2) ∧ AW d 238 209 [l0, l1, l2, l3, l4, l5, l6, l7, l8] [] (cI m a (jup (mI m a) (jx i) x)) Q := A_iastore hB_X12_minute dX12_minute_208
theorem dX12_minute_209 : decode cX12_minute 209 = .ok (.iconst 0, 1) := by decide +kernel
theorem tX12_minute_209 {d : Nat} {l0 l1 l2 l3 l4 l5 l6 l7 l8 : Option Value} {m : jmM} {Q : Option Value → jmM → Prop} : AW d 238 209 [l0, l1, l2, l3, l4, l5, l6, l7, l8] [] m Q ↔ AW d 238 210 [l0, l1, l2, l3, l4, l5, l6, l7, l8] [.int 0] m Q := A_iconst hB_X12_minute dX12_minute_209 (by decide)
theorem dX12_minute_210 : decode cX12_minute 210 = .ok (.istore 6, 2) := by decide +kernel
theorem tX12_minute_210 {d : Nat} {l0 l1 l2 l3 l4 l5 l6 l7 l8 : Option Value} {x : Int32} {m : jmM} {Q : Option Value → jmM → Prop} : AW d 238 210 [l0, l1, l2, l3, l4, l5, l6, l7, l8] [.int x] m Q ↔ AW d 238 212 [l0, l1, l2, l3, l4, jc1 l5, some (.int x), l7, l8] [] m Q := A_istore hB_X12_minute dX12_minute_210 (Nat.le_of_ble_eq_true rfl) rfl
theorem dX12_minute_212 : decode cX12_minute 212 = .ok (.iload 6, 2) := by decide +kernel
theorem tX12_minute_212 {d : Nat} {l0 l1 l2 l3 l4 l5 l7 l8 : Option Value} {x : Int32} {m : jmM} {Q : Option Value → jmM → Prop} : AW d 238 212 [l0, l1, l2, l3, l4, l5, some (.int x), l7, l8] [] m Q ↔ AW d 238 214 [l0, l1, l2, l3, l4, l5, some (.int x), l7, l8] [.int x] m Q := A_iload hB_X12_minute dX12_minute_212 rfl
theorem dX12_minute_214 : decode cX12_minute 214 = .ok (.bipush 6, 2) := by decide +kernel
theorem tX12_minute_214 {d : Nat} {l0 l1 l2 l3 l4 l5 l6 l7 l8 : Option Value} {v0 : Value} {m : jmM} {Q : Option Value → jmM → Prop} : AW d 238 214 [l0, l1, l2, l3, l4, l5, l6, l7, l8] [v0] m Q ↔ AW d 238 216 [l0, l1, l2, l3, l4, l5, l6, l7, l8] [.int 6, v0] m Q := A_bipush hB_X12_minute dX12_minute_214 rfl
theorem dX12_minute_216 : decode cX12_minute 216 = .ok (.if_icmp .ge 65, 3) := by decide +kernel
theorem tX12_minute_216 {d : Nat} {l0 l1 l2 l3 l4 l5 l6 l7 l8 : Option Value} {x y : Int32} {m : jmM} {Q : Option Value → jmM → Prop} : AW d 238 216 [l0, l1, l2, l3, l4, l5, l6, l7, l8] [.int y, .int x] m Q ↔ if y ≤ x then AW d 238 281 [l0, l1, l2, l3, l4, l5, l6, l7, l8] [] m Q else AW d 238 219 [l0, l1, l2, l3, l4, l5, l6, l7, l8] [] m Q := A_icmp_ge hB_X12_minute dX12_minute_216 (by decide)
theorem dX12_minute_219 : decode cX12_minute 219 = .ok (.aload_n 0, 1) := by decide +kernel
theorem tX12_minute_219 {d : Nat} {l1 l2 l3 l4 l5 l6 l7 l8 : Option Value} {x : Nat} {m : jmM} {Q : Option Value → jmM → Prop} : AW d 238 219 [some (.ref x), l1, l2, l3, l4, l5, l6, l7, l8] [] m Q ↔ AW d 238 220 [some (.ref x), l1, l2, l3, l4, l5, l6, l7, l8] [.ref x] m Q := A_aload_n hB_X12_minute dX12_minute_219 rfl
theorem dX12_minute_220 : decode cX12_minute 220 = .ok (.getfield 54, 3) := by decide +kernel
theorem tX12_minute_220 {d : Nat} {l0 l1 l2 l3 l4 l5 l6 l7 l8 : Option Value} {a : Nat} {m : jmM} {Q : Option Value → jmM → Prop} : AW d 238 220 [l0, l1, l2, l3, l4, l5, l6, l7, l8] [.ref a] m Q ↔ (mS m a).1 = 12 ∧ AW d 238 223 [l0, l1, l2, l3, l4, l5, l6, l7, l8] [va_rf (mR m a 26)] m Q := A_getfield (f := fun m a => va_rf (mR m a 26)) hB_X12_minute dX12_minute_220 hO_X12_minute fF_12_54 rfl
theorem dX12_minute_223 : decode cX12_minute 223 = .ok (.iload 6, 2) := by decide +kernel
theorem tX12_minute_223 {d : Nat} {l0 l1 l2 l3 l4 l5 l7 l8 : Option Value} {v0 : Value} {x : Int32} {m : jmM} {Q : Option Value → jmM → Prop} : AW d 238 223 [l0, l1, l2, l3, l4, l5, some (.int x), l7, l8] [v0] m Q ↔ AW d 238 225 [l0, l1, l2, l3, l4, l5, some (.int x), l7, l8] [.int x, v0] m Q := A_iload hB_X12_minute dX12_minute_223 rfl
theorem dX12_minute_225 : decode cX12_minute 225 = .ok (.laload, 1) := by decide +kernel
theorem tX12_minute_225 {d : Nat} {l0 l1 l2 l3 l4 l5 l6 l7 l8 : Option Value} {i : Int32} {a : Nat} {m : jmM} {Q : Option Value → jmM → Prop} : AW d 238 225 [l0, l1, l2, l3, l4, l5, l6, l7, l8] [.int i, .ref a] m Q ↔ ((mS m a).1 = 21 ∧ jIx i (mS m a).2) ∧ AW d 238 226 [l0, l1, l2, l3, l4, l5, l6, l7, l8] [.long (mL m a (jx i))] m Q := A_laload hB_X12_minute dX12_minute_225
theorem dX12_minute_226 : decode cX12_minute 226 = .ok (.lload 4, 2) := by decide +kernel
theorem tX12_minute_226 {d : Nat} {l0 l1 l2 l3 l5 l6 l7 l8 : Option Value} {v0 : Value} {x : Int64} {m : jmM} {Q : Option Value → jmM → Prop} : AW d 238 226 [l0, l1, l2, l3, some (.long x), l5, l6, l7, l8] [v0] m Q ↔ AW d 238 228 [l0, l1, l2, l3, some (.long x), l5, l6, l7, l8] [.long x, v0] m Q := A_lload hB_X12_minute dX12_minute_226 rfl
theorem dX12_minute_228 : decode cX12_minute 228 = .ok (.aload_n 0, 1) := by decide +kernel
theorem tX12_minute_228 {d : Nat} {l1 l2 l3 l4 l5 l6 l7 l8 : Option Value} {v0 v1 : Value} {x : Nat} {m : jmM} {Q : Option Value → jmM → Prop} : AW d 238 228 [some (.ref x), l1, l2, l3, l4, l5, l6, l7, l8] [v0, v1] m Q ↔ AW d 238 229 [some (.ref x), l1, l2, l3, l4, l5, l6, l7, l8] [.ref x, v0, v1] m Q := A_aload_n hB_X12_minute dX12_minute_228 rfl
theorem dX12_minute_229 : decode cX12_minute 229 = .ok (.getfield 51, 3) := by decide +kernel
theorem tX12_minute_229 {d : Nat} {l0 l1 l2 l3 l4 l5 l6 l7 l8 : Option Value} {v1 v2 : Value} {a : Nat} {m : jmM} {Q : Option Value → jmM → Prop} : AW d 238 229 [l0, l1, l2, l3, l4, l5, l6, l7, l8] [.ref a, v1, v2] m Q ↔ (mS m a).1 = 12 ∧ AW d 238 232 [l0, l1, l2, l3, l4, l5, l6, l7, l8] [va_rf (mR m a 25), v1, v2] m Q := A_getfield (f := fun m a => va_rf (mR m a 25)) hB_X12_minute dX12_minute_229 hO_X12_minute fF_12_51 rfl
theorem dX12_minute_232 : decode cX12_minute 232 = .ok (.bipush 9, 2) := by decide +kernel
theorem tX12_minute_232 {d : Nat} {l0 l1 l2 l3 l4 l5 l6 l7 l8 : Option Value} {v0 v1 v2 : Value} {m : jmM} {Q : Option Value → jmM → Prop} : AW d 238 232 [l0, l1, l2, l3, l4, l5, l6, l7, l8] [v0, v1, v2] m Q ↔ AW d 238 234 [l0, l1, l2, l3, l4, l5, l6, l7, l8] [.int 9, v0, v1, v2] m Q := A_bipush hB_X12_minute dX12_minute_232 rfl
theorem dX12_minute_234 : decode cX12_minute 234 = .ok (.iaload, 1) := by decide +kernel
theorem tX12_minute_234 {d : Nat} {l0 l1 l2 l3 l4 l5 l6 l7 l8 : Option Value} {v2 v3 : Value} {i : Int32} {a : Nat} {m : jmM} {Q : Option Value → jmM → Prop} : AW d 238 234 [l0, l1, l2, l3, l4, l5, l6, l7, l8] [.int i, .ref a, v2, v3] m Q ↔ (((mS m a).1 = 20 ∨ a = jScr) ∧ jIx i (mS m a).2) ∧ AW d 238 235 [l0, l1, l2, l3, l4, l5, l6, l7, l8] [.int (mI m a (jx i)), v2, v3] m Q := A_iaload hB_X12_minute dX12_minute_234
theorem dX12_minute_235 : decode cX12_minute 235 = .ok (.i2l, 1) := by decide +kernel
theorem tX12_minute_235 {d : Nat} {l0 l1 l2 l3 l4 l5 l6 l7 l8 : Option Value} {v1 v2 : Value} {x : Int32} {m : jmM} {Q : Option Value → jmM → Prop} : AW d 238 235 [l0, l1, l2, l3, l4, l5, l6, l7, l8] [.int x, v1, v2] m Q ↔ AW d 238 236 [l0, l1, l2, l3, l4, l5, l6, l7, l8] [.long x.toInt64, v1, v2] m Q := A_i2l hB_X12_minute dX12_minute_235
theorem dX12_minute_236 : decode cX12_minute 236 = .ok (.aload_n 0, 1) := by decide +kernel
theorem tX12_minute_236 {d : Nat} {l1 l2 l3 l4 l5 l6 l7 l8 : Option Value} {v0 v1 v2 : Value} {x : Nat} {m : jmM} {Q : Option Value → jmM → Prop} : AW d 238 236 [some (.ref x), l1, l2, l3, l4, l5, l6, l7, l8] [v0, v1, v2] m Q ↔ AW d 238 237 [some (.ref x), l1, l2, l3, l4, l5, l6, l7, l8] [.ref x, v0, v1, v2] m Q := A_aload_n hB_X12_minute dX12_minute_236 rfl
theorem dX12_minute_237 : decode cX12_minute 237 = .ok (.getfield 60, 3) := by decide +kernel
theorem tX12_minute_237 {d : Nat} {l0 l1 l2 l3 l4 l5 l6 l7 l8 : Option Value} {v1 v2 v3 : Value} {a : Nat} {m : jmM} {Q : Option Value → jmM → Prop} : AW d 238 237 [l0, l1, l2, l3, l4, l5, l6, l7, l8] [.ref a, v1, v2, v3] m Q ↔ (mS m a).1 = 12 ∧ AW d 238 240 [l0, l1, l2, l3, l4, l5, l6, l7, l8] [va_rf (mR m a 28), v1, v2, v3] m Q := A_getfield (f := fun m a => va_rf (mR m a 28)) hB_X12_minute dX12_minute_237 hO_X12_minute fF_12_60 rfl
theorem dX12_minute_240 : decode cX12_minute 240 = .ok (.iload 6, 2) := by decide +kernel
theorem tX12_minute_240 {d : Nat} {l0 l1 l2 l3 l4 l5 l7 l8 : Option Value} {v0 v1 v2 v3 : Value} {x : Int32} {m : jmM} {Q : Option Value → jmM → Prop} : AW d 238 240 [l0, l1, l2, l3, l4, l5, some (.int x), l7, l8] [v0, v1, v2, v3] m Q ↔ AW d 238 242 [l0, l1, l2, l3, l4, l5, some (.int x), l7, l8] [.int x, v0, v1, v2, v3] m Q := A_iload hB_X12_minute dX12_minute_240 rfl
theorem dX12_minute_242 : decode cX12_minute 242 = .ok (.iaload, 1) := by decide +kernel
theorem tX12_minute_242 {d : Nat} {l0 l1 l2 l3 l4 l5 l6 l7 l8 : Option Value} {v2 v3 v4 : Value} {i : Int32} {a : Nat} {m : jmM} {Q : Option Value → jmM → Prop} : AW d 238 242 [l0, l1, l2, l3, l4, l5, l6, l7, l8] [.int i, .ref a, v2, v3, v4] m Q ↔ (((mS m a).1 = 20 ∨ a = jScr) ∧ jIx i (mS m a).2) ∧ AW d 238 243 [l0, l1, l2, l3, l4, l5, l6, l7, l8] [.int (mI m a (jx i)), v2, v3, v4] m Q := A_iaload hB_X12_minute dX12_minute_242
theorem dX12_minute_243 : decode cX12_minute 243 = .ok (.i2l, 1) := by decide +kernel
theorem tX12_minute_243 {d : Nat} {l0 l1 l2 l3 l4 l5 l6 l7 l8 : Option Value} {v1 v2 v3 : Value} {x : Int32} {m : jmM} {Q : Option Value → jmM → Prop} : AW d 238 243 [l0, l1, l2, l3, l4, l5, l6, l7, l8] [.int x, v1, v2, v3] m Q ↔ AW d 238 244 [l0, l1, l2, l3, l4, l5, l6, l7, l8] [.long x.toInt64, v1, v2, v3] m Q := A_i2l hB_X12_minute dX12_minute_243
theorem dX12_minute_244 : decode cX12_minute 244 = .ok (.invokestatic 337, 3) := by decide +kernel
theorem tX12_minute_244 {d : Nat} {l0 l1 l2 l3 l4 l5 l6 l7 l8 : Option Value} {y0 y1 y2 y3 : Value} {m : jmM} {Q : Option Value → jmM → Prop} : AW d 238 244 [l0, l1, l2, l3, l4, l5, l6, l7, l8] [y0, y1, y2, y3] m Q ↔ CC d 234 [y3, y2, y1, y0] m (jK d 238 247 [l0, l1, l2, l3, l4, l5, l6, l7, l8] [] Q) := A_callS0 hB_X12_minute dX12_minute_244 hO_X12_minute fS_12_337 ⟨Nat.le_of_ble_eq_true rfl, Nat.le_of_ble_eq_true rfl⟩ rfl rfl
theorem dX12_minute_247 : decode cX12_minute 247 = .ok (.lstore 7, 2) := by decide +kernel
theorem tX12_minute_247 {d : Nat} {l0 l1 l2 l3 l4 l5 l6 l7 l8 : Option Value} {x : Int64} {m : jmM} {Q : Option Value → jmM → Prop} : AW d 238 247 [l0, l1, l2, l3, l4, l5, l6, l7, l8] [.long x] m Q ↔ AW d 238 249 [l0, l1, l2, l3, l4, l5, jc1 l6, some (.long x), none] [] m Q := A_lstore hB_X12_minute dX12_minute_247 (Nat.le_of_ble_eq_true rfl) rfl
theorem dX12_minute_249 : decode cX12_minute 249 = .ok (.aload_n 0, 1) := by decide +kernel
theorem tX12_minute_249 {d : Nat} {l1 l2 l3 l4 l5 l6 l7 l8 : Option Value} {x : Nat} {m : jmM} {Q : Option Value → jmM → Prop} : AW d 238 249 [some (.ref x), l1, l2, l3, l4, l5, l6, l7, l8] [] m Q ↔ AW d 238 250 [some (.ref x), l1, l2, l3, l4, l5, l6, l7, l8] [.ref x] m Q := A_aload_n hB_X12_minute dX12_minute_249 rfl
theorem dX12_minute_250 : decode cX12_minute 250 = .ok (.getfield 66, 3) := by decide +kernel
theorem tX12_minute_250 {d : Nat} {l0 l1 l2 l3 l4 l5 l6 l7 l8 : Option Value} {a : Nat} {m : jmM} {Q : Option Value → jmM → Prop} : AW d 238 250 [l0, l1, l2, l3, l4, l5, l6, l7, l8] [.ref a] m Q ↔ (mS m a).1 = 12 ∧ AW d 238 253 [l0, l1, l2, l3, l4, l5, l6, l7, l8] [va_rf (mR m a 30)] m Q := A_getfield (f := fun m a => va_rf (mR m a 30)) hB_X12_minute dX12_minute_250 hO_X12_minute fF_12_66 rfl
theorem dX12_minute_253 : decode cX12_minute 253 = .ok (.bipush 6, 2) := by decide +kernel
theorem tX12_minute_253 {d : Nat} {l0 l1 l2 l3 l4 l5 l6 l7 l8 : Option Value} {v0 : Value} {m : jmM} {Q : Option Value → jmM → Prop} : AW d 238 253 [l0, l1, l2, l3, l4, l5, l6, l7, l8] [v0] m Q ↔ AW d 238 255 [l0, l1, l2, l3, l4, l5, l6, l7, l8] [.int 6, v0] m Q := A_bipush hB_X12_minute dX12_minute_253 rfl
theorem dX12_minute_255 : decode cX12_minute 255 = .ok (.iload_n 1, 1) := by decide +kernel
theorem tX12_minute_255 {d : Nat} {l0 l2 l3 l4 l5 l6 l7 l8 : Option Value} {v0 v1 : Value} {x : Int32} {m : jmM} {Q : Option Value → jmM → Prop} : AW d 238 255 [l0, some (.int x), l2, l3, l4, l5, l6, l7, l8] [v0, v1] m Q ↔ AW d 238 256 [l0, some (.int x), l2, l3, l4, l5, l6, l7, l8] [.int x, v0, v1] m Q := A_iload_n hB_X12_minute dX12_minute_255 rfl
theorem dX12_minute_256 : decode cX12_minute 256 = .ok (.imul, 1) := by decide +kernel
theorem tX12_minute_256 {d : Nat} {l0 l1 l2 l3 l4 l5 l6 l7 l8 : Option Value} {v2 : Value} {x y : Int32} {m : jmM} {Q : Option Value → jmM → Prop} : AW d 238 256 [l0, l1, l2, l3, l4, l5, l6, l7, l8] [.int y, .int x, v2] m Q ↔ AW d 238 257 [l0, l1, l2, l3, l4, l5, l6, l7, l8] [.int (x * y), v2] m Q := A_imul hB_X12_minute dX12_minute_256
theorem dX12_minute_257 : decode cX12_minute 257 = .ok (.iload 6, 2) := by decide +kernel
theorem tX12_minute_257 {d : Nat} {l0 l1 l2 l3 l4 l5 l7 l8 : Option Value} {v0 v1 : Value} {x : Int32} {m : jmM} {Q : Option Value → jmM → Prop} : AW d 238 257 [l0, l1, l2, l3, l4, l5, some (.int x), l7, l8] [v0, v1] m Q ↔ AW d 238 259 [l0, l1, l2, l3, l4, l5, some (.int x), l7, l8] [.int x, v0, v1] m Q := A_iload hB_X12_minute dX12_minute_257 rfl
theorem dX12_minute_259 : decode cX12_minute 259 = .ok (.iadd, 1) := by decide +kernel
theorem tX12_minute_259 {d : Nat} {l0 l1 l2 l3 l4 l5 l6 l7 l8 : Option Value} {v2 : Value} {x y : Int32} {m : jmM} {Q : Option Value → jmM → Prop} : AW d 238 259 [l0, l1, l2, l3, l4, l5, l6, l7, l8] [.int y, .int x, v2] m Q ↔ AW d 238 260 [l0, l1, l2, l3, l4, l5, l6, l7, l8] [.int (x + y), v2] m Q := A_iadd hB_X12_minute dX12_minute_259
theorem dX12_minute_260 : decode cX12_minute 260 = .ok (.lload 7, 2) := by decide +kernel
theorem tX12_minute_260 {d : Nat} {l0 l1 l2 l3 l4 l5 l6 l8 : Option Value} {v0 v1 : Value} {x : Int64} {m : jmM} {Q : Option Value → jmM → Prop} : AW d 238 260 [l0, l1, l2, l3, l4, l5, l6, some (.long x), l8] [v0, v1] m Q ↔ AW d 238 262 [l0, l1, l2, l3, l4, l5, l6, some (.long x), l8] [.long x, v0, v1] m Q := A_lload hB_X12_minute dX12_minute_260 rfl
theorem dX12_minute_262 : decode cX12_minute 262 = .ok (.lastore, 1) := by decide +kernel
theorem tX12_minute_262 {d : Nat} {l0 l1 l2 l3 l4 l5 l6 l7 l8 : Option Value} {x : Int64} {i : Int32} {a : Nat} {m : jmM} {Q : Option Value → jmM → Prop} : AW d 238 262 [l0, l1, l2, l3, l4, l5, l6, l7, l8] [.long x, .int i, .ref a] m Q ↔ ((mS m a).1 = 21 ∧ jIx i (mS m a).2) ∧ AW d 238 263 [l0, l1, l2, l3, l4, l5, l6, l7, l8] [] (cL m a (jup (mL m a) (jx i) x)) Q := A_lastore hB_X12_minute dX12_minute_262
theorem dX12_minute_263 : decode cX12_minute 263 = .ok (.aload_n 0, 1) := by decide +kernel
theorem tX12_minute_263 {d : Nat} {l1 l2 l3 l4 l5 l6 l7 l8 : Option Value} {x : Nat} {m : jmM} {Q : Option Value → jmM → Prop} : AW d 238 263 [some (.ref x), l1, l2, l3, l4, l5, l6, l7, l8] [] m Q ↔ AW d 238 264 [some (.ref x), l1, l2, l3, l4, l5, l6, l7, l8] [.ref x] m Q := A_aload_n hB_X12_minute dX12_minute_263 rfl
theorem dX12_minute_264 : decode cX12_minute 264 = .ok (.getfield 54, 3) := by decide +kernel
theorem tX12_minute_264 {d : Nat} {l0 l1 l2 l3 l4 l5 l6 l7 l8 : Option Value} {a : Nat} {m : jmM} {Q : Option Value → jmM → Prop} : AW d 238 264 [l0, l1, l2, l3, l4, l5, l6, l7, l8] [.ref a] m Q ↔ (mS m a).1 = 12 ∧ AW d 238 267 [l0, l1, l2, l3, l4, l5, l6, l7, l8] [va_rf (mR m a 26)] m Q := A_getfield (f := fun m a => va_rf (mR m a 26)) hB_X12_minute dX12_minute_264 hO_X12_minute fF_12_54 rfl
theorem dX12_minute_267 : decode cX12_minute 267 = .ok (.iload 6, 2) := by decide +kernel
theorem tX12_minute_267 {d : Nat} {l0 l1 l2 l3 l4 l5 l7 l8 : Option Value} {v0 : Value} {x : Int32} {m : jmM} {Q : Option Value → jmM → Prop} : AW d 238 267 [l0, l1, l2, l3, l4, l5, some (.int x), l7, l8] [v0] m Q ↔ AW d 238 269 [l0, l1, l2, l3, l4, l5, some (.int x), l7, l8] [.int x, v0] m Q := A_iload hB_X12_minute dX12_minute_267 rfl
theorem dX12_minute_269 : decode cX12_minute 269 = .ok (.dup2, 1) := by decide +kernel
theorem tX12_minute_269 {d : Nat} {l0 l1 l2 l3 l4 l5 l6 l7 l8 : Option Value} {x : Int32} {y : Nat} {m : jmM} {Q : Option Value → jmM → Prop} : AW d 238 269 [l0, l1, l2, l3, l4, l5, l6, l7, l8] [.int x, .ref y] m Q ↔ AW d 238 270 [l0, l1, l2, l3, l4, l5, l6, l7, l8] [.int x, .ref y, .int x, .ref y] m Q := A_dup2_ia hB_X12_minute dX12_minute_269
theorem dX12_minute_270 : decode cX12_minute 270 = .ok (.laload, 1) := by decide +kernel
theorem tX12_minute_270 {d : Nat} {l0 l1 l2 l3 l4 l5 l6 l7 l8 : Option Value} {v2 v3 : Value} {i : Int32} {a : Nat} {m : jmM} {Q : Option Value → jmM → Prop} : AW d 238 270 [l0, l1, l2, l3, l4, l5, l6, l7, l8] [.int i, .ref a, v2, v3] m Q ↔ ((mS m a).1 = 21 ∧ jIx i (mS m a).2) ∧ AW d 238 271 [l0, l1, l2, l3, l4, l5, l6, l7, l8] [.long (mL m a (jx i)), v2, v3] m Q := A_laload hB_X12_minute dX12_minute_270
theorem dX12_minute_271 : decode cX12_minute 271 = .ok (.lload 7, 2) := by decide +kernel
theorem tX12_minute_271 {d : Nat} {l0 l1 l2 l3 l4 l5 l6 l8 : Option Value} {v0 v1 v2 : Value} {x : Int64} {m : jmM} {Q : Option Value → jmM → Prop} : AW d 238 271 [l0, l1, l2, l3, l4, l5, l6, some (.long x), l8] [v0, v1, v2] m Q ↔ AW d 238 273 [l0, l1, l2, l3, l4, l5, l6, some (.long x), l8] [.long x, v0, v1, v2] m Q := A_lload hB_X12_minute dX12_minute_271 rfl
theorem dX12_minute_273 : decode cX12_minute 273 = .ok (.lsub, 1) := by decide +kernel
theorem tX12_minute_273 {d : Nat} {l0 l1 l2 l3 l4 l5 l6 l7 l8 : Option Value} {v2 v3 : Value} {x y : Int64} {m : jmM} {Q : Option Value → jmM → Prop} : AW d 238 273 [l0, l1, l2, l3, l4, l5, l6, l7, l8] [.long y, .long x, v2, v3] m Q ↔ AW d 238 274 [l0, l1, l2, l3, l4, l5, l6, l7, l8] [.long (x - y), v2, v3] m Q := A_lsub hB_X12_minute dX12_minute_273
theorem dX12_minute_274 : decode cX12_minute 274 = .ok (.lastore, 1) := by decide +kernel
theorem tX12_minute_274 {d : Nat} {l0 l1 l2 l3 l4 l5 l6 l7 l8 : Option Value} {x : Int64} {i : Int32} {a : Nat} {m : jmM} {Q : Option Value → jmM → Prop} : AW d 238 274 [l0, l1, l2, l3, l4, l5, l6, l7, l8] [.long x, .int i, .ref a] m Q ↔ ((mS m a).1 = 21 ∧ jIx i (mS m a).2) ∧ AW d 238 275 [l0, l1, l2, l3, l4, l5, l6, l7, l8] [] (cL m a (jup (mL m a) (jx i) x)) Q := A_lastore hB_X12_minute dX12_minute_274
theorem dX12_minute_275 : decode cX12_minute 275 = .ok (.iinc 6 1, 3) := by decide +kernel
theorem tX12_minute_275 {d : Nat} {l0 l1 l2 l3 l4 l5 l7 l8 : Option Value} {x : Int32} {m : jmM} {Q : Option Value → jmM → Prop} : AW d 238 275 [l0, l1, l2, l3, l4, l5, some (.int x), l7, l8] [] m Q ↔ AW d 238 278 [l0, l1, l2, l3, l4, jc1 l5, some (.int (x + 1)), l7, l8] [] m Q := A_iinc hB_X12_minute dX12_minute_275 rfl (Nat.le_of_ble_eq_true rfl) (v := 1) (by decide) rfl
theorem dX12_minute_278 : decode cX12_minute 278 = .ok (.goto (-66), 3) := by decide +kernel
theorem tX12_minute_278 {d : Nat} {l0 l1 l2 l3 l4 l5 l6 l7 l8 : Option Value} {m : jmM} {Q : Option Value → jmM → Prop} : AW d 238 278 [l0, l1, l2, l3, l4, l5, l6, l7, l8] [] m Q ↔ AW d 238 212 [l0, l1, l2, l3, l4, l5, l6, l7, l8] [] m Q := A_goto hB_X12_minute dX12_minute_278 (by decide)
theorem dX12_minute_281 : decode cX12_minute 281 = .ok (.aload_n 0, 1) := by decide +kernel
theorem tX12_minute_281 {d : Nat} {l1 l2 l3 l4 l5 l6 l7 l8 : Option Value} {x : Nat} {m : jmM} {Q : Option Value → jmM → Prop} : AW d 238 281 [some (.ref x), l1, l2, l3, l4, l5, l6, l7, l8] [] m Q ↔ AW d 238 282 [some (.ref x), l1, l2, l3, l4, l5, l6, l7, l8] [.ref x] m Q := A_aload_n hB_X12_minute dX12_minute_281 rfl
theorem dX12_minute_282 : decode cX12_minute 282 = .ok (.getfield 51, 3) := by decide +kernel
theorem tX12_minute_282 {d : Nat} {l0 l1 l2 l3 l4 l5 l6 l7 l8 : Option Value} {a : Nat} {m : jmM} {Q : Option Value → jmM → Prop} : AW d 238 282 [l0, l1, l2, l3, l4, l5, l6, l7, l8] [.ref a] m Q ↔ (mS m a).1 = 12 ∧ AW d 238 285 [l0, l1, l2, l3, l4, l5, l6, l7, l8] [va_rf (mR m a 25)] m Q := A_getfield (f := fun m a => va_rf (mR m a 25)) hB_X12_minute dX12_minute_282 hO_X12_minute fF_12_51 rfl
theorem dX12_minute_285 : decode cX12_minute 285 = .ok (.bipush 9, 2) := by decide +kernel
theorem tX12_minute_285 {d : Nat} {l0 l1 l2 l3 l4 l5 l6 l7 l8 : Option Value} {v0 : Value} {m : jmM} {Q : Option Value → jmM → Prop} : AW d 238 285 [l0, l1, l2, l3, l4, l5, l6, l7, l8] [v0] m Q ↔ AW d 238 287 [l0, l1, l2, l3, l4, l5, l6, l7, l8] [.int 9, v0] m Q := A_bipush hB_X12_minute dX12_minute_285 rfl
theorem dX12_minute_287 : decode cX12_minute 287 = .ok (.dup2, 1) := by decide +kernel
theorem tX12_minute_287 {d : Nat} {l0 l1 l2 l3 l4 l5 l6 l7 l8 : Option Value} {x : Int32} {y : Nat} {m : jmM} {Q : Option Value → jmM → Prop} : AW d 238 287 [l0, l1, l2, l3, l4, l5, l6, l7, l8] [.int x, .ref y] m Q ↔ AW d 238 288 [l0, l1, l2, l3, l4, l5, l6, l7, l8] [.int x, .ref y, .int x, .ref y] m Q := A_dup2_ia hB_X12_minute dX12_minute_287
theorem dX12_minute_288 : decode cX12_minute 288 = .ok (.iaload, 1) := by decide +kernel
theorem tX12_minute_288 {d : Nat} {l0 l1 l2 l3 l4 l5 l6 l7 l8 : Option Value} {v2 v3 : Value} {i : Int32} {a : Nat} {m : jmM} {Q : Option Value → jmM → Prop} : AW d 238 288 [l0, l1, l2, l3, l4, l5, l6, l7, l8] [.int i, .ref a, v2, v3] m Q ↔ (((mS m a).1 = 20 ∨ a = jScr) ∧ jIx i (mS m a).2) ∧ AW d 238 289 [l0, l1, l2, l3, l4, l5, l6, l7, l8] [.int (mI m a (jx i)), v2, v3] m Q := A_iaload hB_X12_minute dX12_minute_288
theorem dX12_minute_289 : decode cX12_minute 289 = .ok (.lload 4, 2) := by decide +kernel
theorem tX12_minute_289 {d : Nat} {l0 l1 l2 l3 l5 l6 l7 l8 : Option Value} {v0 v1 v2 : Value} {x : Int64} {m : jmM} {Q : Option Value → jmM → Prop} : AW d 238 289 [l0, l1, l2, l3, some (.long x), l5, l6, l7, l8] [v0, v1, v2] m Q ↔ AW d 238 291 [l0, l1, l2, l3, some (.long x), l5, l6, l7, l8] [.long x, v0, v1, v2] m Q := A_lload hB_X12_minute dX12_minute_289 rfl
theorem dX12_minute_291 : decode cX12_minute 291 = .ok (.l2i, 1) := by decide +kernel
theorem tX12_minute_291 {d : Nat} {l0 l1 l2 l3 l4 l5 l6 l7 l8 : Option Value} {v1 v2 v3 : Value} {x : Int64} {m : jmM} {Q : Option Value → jmM → Prop} : AW d 238 291 [l0, l1, l2, l3, l4, l5, l6, l7, l8] [.long x, v1, v2, v3] m Q ↔ AW d 238 292 [l0, l1, l2, l3, l4, l5, l6, l7, l8] [.int x.toInt32, v1, v2, v3] m Q := A_l2i hB_X12_minute dX12_minute_291
theorem dX12_minute_292 : decode cX12_minute 292 = .ok (.isub, 1) := by decide +kernel
theorem tX12_minute_292 {d : Nat} {l0 l1 l2 l3 l4 l5 l6 l7 l8 : Option Value} {v2 v3 : Value} {x y : Int32} {m : jmM} {Q : Option Value → jmM → Prop} : AW d 238 292 [l0, l1, l2, l3, l4, l5, l6, l7, l8] [.int y, .int x, v2, v3] m Q ↔ AW d 238 293 [l0, l1, l2, l3, l4, l5, l6, l7, l8] [.int (x - y), v2, v3] m Q := A_isub hB_X12_minute dX12_minute_292
theorem dX12_minute_293 : decode cX12_minute 293 = .ok (.iastore, 1) := by decide +kernel
theorem tX12_minute_293 {d : Nat} {l0 l1 l2 l3 l4 l5 l6 l7 l8 : Option Value} {x i : Int32} {a : Nat} {m : jmM} {Q : Option Value → jmM → Prop} : AW d 238 293 [l0, l1, l2, l3, l4, l5, l6, l7, l8] [.int x, .int i, .ref a] m Q ↔ ((mS m a).1 = 20 ∧ jIx i (mS m a).2) ∧ AW d 238 294 [l0, l1, l2, l3, l4, l5, l6, l7, l8] [] (cI m a (jup (mI m a) (jx i) x)) Q := A_iastore hB_X12_minute dX12_minute_293
theorem dX12_minute_294 : decode cX12_minute 294 = .ok (.aload_n 0, 1) := by decide +kernel
theorem tX12_minute_294 {d : Nat} {l1 l2 l3 l4 l5 l6 l7 l8 : Option Value} {x : Nat} {m : jmM} {Q : Option Value → jmM → Prop} : AW d 238 294 [some (.ref x), l1, l2, l3, l4, l5, l6, l7, l8] [] m Q ↔ AW d 238 295 [some (.ref x), l1, l2, l3, l4, l5, l6, l7, l8] [.ref x] m Q := A_aload_n hB_X12_minute dX12_minute_294 rfl
theorem dX12_minute_295 : decode cX12_minute 295 = .ok (.getfield 51, 3) := by decide +kernel
theorem tX12_minute_295 {d : Nat} {l0 l1 l2 l3 l4 l5 l6 l7 l8 : Option Value} {a : Nat} {m : jmM} {Q : Option Value → jmM → Prop} : AW d 238 295 [l0, l1, l2, l3, l4, l5, l6, l7, l8] [.ref a] m Q ↔ (mS m a).1 = 12 ∧ AW d 238 298 [l0, l1, l2, l3, l4, l5, l6, l7, l8] [va_rf (mR m a 25)] m Q := A_getfield (f := fun m a => va_rf (mR m a 25)) hB_X12_minute dX12_minute_295 hO_X12_minute fF_12_51 rfl
theorem dX12_minute_298 : decode cX12_minute 298 = .ok (.bipush 13, 2) := by decide +kernel
theorem tX12_minute_298 {d : Nat} {l0 l1 l2 l3 l4 l5 l6 l7 l8 : Option Value} {v0 : Value} {m : jmM} {Q : Option Value → jmM → Prop} : AW d 238 298 [l0, l1, l2, l3, l4, l5, l6, l7, l8] [v0] m Q ↔ AW d 238 300 [l0, l1, l2, l3, l4, l5, l6, l7, l8] [.int 13, v0] m Q := A_bipush hB_X12_minute dX12_minute_298 rfl
theorem dX12_minute_300 : decode cX12_minute 300 = .ok (.dup2, 1) := by decide +kernel
theorem tX12_minute_300 {d : Nat} {l0 l1 l2 l3 l4 l5 l6 l7 l8 : Option Value} {x : Int32} {y : Nat} {m : jmM} {Q : Option Value → jmM → Prop} : AW d 238 300 [l0, l1, l2, l3, l4, l5, l6, l7, l8] [.int x, .ref y] m Q ↔ AW d 238 301 [l0, l1, l2, l3, l4, l5, l6, l7, l8] [.int x, .ref y, .int x, .ref y] m Q := A_dup2_ia hB_X12_minute dX12_minute_300
theorem dX12_minute_301 : decode cX12_minute 301 = .ok (.iaload, 1) := by decide +kernel
theorem tX12_minute_301 {d : Nat} {l0 l1 l2 l3 l4 l5 l6 l7 l8 : Option Value} {v2 v3 : Value} {i : Int32} {a : Nat} {m : jmM} {Q : Option Value → jmM → Prop} : AW d 238 301 [l0, l1, l2, l3, l4, l5, l6, l7, l8] [.int i, .ref a, v2, v3] m Q ↔ (((mS m a).1 = 20 ∨ a = jScr) ∧ jIx i (mS m a).2) ∧ AW d 238 302 [l0, l1, l2, l3, l4, l5, l6, l7, l8] [.int (mI m a (jx i)), v2, v3] m Q := A_iaload hB_X12_minute dX12_minute_301
theorem dX12_minute_302 : decode cX12_minute 302 = .ok (.iload_n 2, 1) := by decide +kernel
theorem tX12_minute_302 {d : Nat} {l0 l1 l3 l4 l5 l6 l7 l8 : Option Value} {v0 v1 v2 : Value} {x : Int32} {m : jmM} {Q : Option Value → jmM → Prop} : AW d 238 302 [l0, l1, some (.int x), l3, l4, l5, l6, l7, l8] [v0, v1, v2] m Q ↔ AW d 238 303 [l0, l1, some (.int x), l3, l4, l5, l6, l7, l8] [.int x, v0, v1, v2] m Q := A_iload_n hB_X12_minute dX12_minute_302 rfl
theorem dX12_minute_303 : decode cX12_minute 303 = .ok (.iadd, 1) := by decide +kernel
theorem tX12_minute_303 {d : Nat} {l0 l1 l2 l3 l4 l5 l6 l7 l8 : Option Value} {v2 v3 : Value} {x y : Int32} {m : jmM} {Q : Option Value → jmM → Prop} : AW d 238 303 [l0, l1, l2, l3, l4, l5, l6, l7, l8] [.int y, .int x, v2, v3] m Q ↔ AW d 238 304 [l0, l1, l2, l3, l4, l5, l6, l7, l8] [.int (x + y), v2, v3] m Q := A_iadd hB_X12_minute dX12_minute_303
theorem dX12_minute_304 : decode cX12_minute 304 = .ok (.iastore, 1) := by decide +kernel
theorem tX12_minute_304 {d : Nat} {l0 l1 l2 l3 l4 l5 l6 l7 l8 : Option Value} {x i : Int32} {a : Nat} {m : jmM} {Q : Option Value → jmM → Prop} : AW d 238 304 [l0, l1, l2, l3, l4, l5, l6, l7, l8] [.int x, .int i, .ref a] m Q ↔ ((mS m a).1 = 20 ∧ jIx i (mS m a).2) ∧ AW d 238 305 [l0, l1, l2, l3, l4, l5, l6, l7, l8] [] (cI m a (jup (mI m a) (jx i) x)) Q := A_iastore hB_X12_minute dX12_minute_304
theorem dX12_minute_305 : decode cX12_minute 305 = .ok (.aload_n 0, 1) := by decide +kernel
theorem tX12_minute_305 {d : Nat} {l1 l2 l3 l4 l5 l6 l7 l8 : Option Value} {x : Nat} {m : jmM} {Q : Option Value → jmM → Prop} : AW d 238 305 [some (.ref x), l1, l2, l3, l4, l5, l6, l7, l8] [] m Q ↔ AW d 238 306 [some (.ref x), l1, l2, l3, l4, l5, l6, l7, l8] [.ref x] m Q := A_aload_n hB_X12_minute dX12_minute_305 rfl
theorem dX12_minute_306 : decode cX12_minute 306 = .ok (.getfield 51, 3) := by decide +kernel
theorem tX12_minute_306 {d : Nat} {l0 l1 l2 l3 l4 l5 l6 l7 l8 : Option Value} {a : Nat} {m : jmM} {Q : Option Value → jmM → Prop} : AW d 238 306 [l0, l1, l2, l3, l4, l5, l6, l7, l8] [.ref a] m Q ↔ (mS m a).1 = 12 ∧ AW d 238 309 [l0, l1, l2, l3, l4, l5, l6, l7, l8] [va_rf (mR m a 25)] m Q := A_getfield (f := fun m a => va_rf (mR m a 25)) hB_X12_minute dX12_minute_306 hO_X12_minute fF_12_51 rfl
theorem dX12_minute_309 : decode cX12_minute 309 = .ok (.bipush 14, 2) := by decide +kernel
theorem tX12_minute_309 {d : Nat} {l0 l1 l2 l3 l4 l5 l6 l7 l8 : Option Value} {v0 : Value} {m : jmM} {Q : Option Value → jmM → Prop} : AW d 238 309 [l0, l1, l2, l3, l4, l5, l6, l7, l8] [v0] m Q ↔ AW d 238 311 [l0, l1, l2, l3, l4, l5, l6, l7, l8] [.int 14, v0] m Q := A_bipush hB_X12_minute dX12_minute_309 rfl
theorem dX12_minute_311 : decode cX12_minute 311 = .ok (.dup2, 1) := by decide +kernel
theorem tX12_minute_311 {d : Nat} {l0 l1 l2 l3 l4 l5 l6 l7 l8 : Option Value} {x : Int32} {y : Nat} {m : jmM} {Q : Option Value → jmM → Prop} : AW d 238 311 [l0, l1, l2, l3, l4, l5, l6, l7, l8] [.int x, .ref y] m Q ↔ AW d 238 312 [l0, l1, l2, l3, l4, l5, l6, l7, l8] [.int x, .ref y, .int x, .ref y] m Q := A_dup2_ia hB_X12_minute dX12_minute_311
theorem dX12_minute_312 : decode cX12_minute 312 = .ok (.iaload, 1) := by decide +kernel
theorem tX12_minute_312 {d : Nat} {l0 l1 l2 l3 l4 l5 l6 l7 l8 : Option Value} {v2 v3 : Value} {i : Int32} {a : Nat} {m : jmM} {Q : Option Value → jmM → Prop} : AW d 238 312 [l0, l1, l2, l3, l4, l5, l6, l7, l8] [.int i, .ref a, v2, v3] m Q ↔ (((mS m a).1 = 20 ∨ a = jScr) ∧ jIx i (mS m a).2) ∧ AW d 238 313 [l0, l1, l2, l3, l4, l5, l6, l7, l8] [.int (mI m a (jx i)), v2, v3] m Q := A_iaload hB_X12_minute dX12_minute_312
theorem dX12_minute_313 : decode cX12_minute 313 = .ok (.iconst 1, 1) := by decide +kernel
theorem tX12_minute_313 {d : Nat} {l0 l1 l2 l3 l4 l5 l6 l7 l8 : Option Value} {v0 v1 v2 : Value} {m : jmM} {Q : Option Value → jmM → Prop} : AW d 238 313 [l0, l1, l2, l3, l4, l5, l6, l7, l8] [v0, v1, v2] m Q ↔ AW d 238 314 [l0, l1, l2, l3, l4, l5, l6, l7, l8] [.int 1, v0, v1, v2] m Q := A_iconst hB_X12_minute dX12_minute_313 (by decide)
theorem dX12_minute_314 : decode cX12_minute 314 = .ok (.iadd, 1) := by decide +kernel
theorem tX12_minute_314 {d : Nat} {l0 l1 l2 l3 l4 l5 l6 l7 l8 : Option Value} {v2 v3 : Value} {x y : Int32} {m : jmM} {Q : Option Value → jmM → Prop} : AW d 238 314 [l0, l1, l2, l3, l4, l5, l6, l7, l8] [.int y, .int x, v2, v3] m Q ↔ AW d 238 315 [l0, l1, l2, l3, l4, l5, l6, l7, l8] [.int (x + y), v2, v3] m Q := A_iadd hB_X12_minute dX12_minute_314
theorem dX12_minute_315 : decode cX12_minute 315 = .ok (.iastore, 1) := by decide +kernel
theorem tX12_minute_315 {d : Nat} {l0 l1 l2 l3 l4 l5 l6 l7 l8 : Option Value} {x i : Int32} {a : Nat} {m : jmM} {Q : Option Value → jmM → Prop} : AW d 238 315 [l0, l1, l2, l3, l4, l5, l6, l7, l8] [.int x, .int i, .ref a] m Q ↔ ((mS m a).1 = 20 ∧ jIx i (mS m a).2) ∧ AW d 238 316 [l0, l1, l2, l3, l4, l5, l6, l7, l8] [] (cI m a (jup (mI m a) (jx i) x)) Q := A_iastore hB_X12_minute dX12_minute_315
theorem dX12_minute_316 : decode cX12_minute 316 = .ok (.aload_n 0, 1) := by decide +kernel
theorem tX12_minute_316 {d : Nat} {l1 l2 l3 l4 l5 l6 l7 l8 : Option Value} {x : Nat} {m : jmM} {Q : Option Value → jmM → Prop} : AW d 238 316 [some (.ref x), l1, l2, l3, l4, l5, l6, l7, l8] [] m Q ↔ AW d 238 317 [some (.ref x), l1, l2, l3, l4, l5, l6, l7, l8] [.ref x] m Q := A_aload_n hB_X12_minute dX12_minute_316 rfl
theorem dX12_minute_317 : decode cX12_minute 317 = .ok (.getfield 51, 3) := by decide +kernel
theorem tX12_minute_317 {d : Nat} {l0 l1 l2 l3 l4 l5 l6 l7 l8 : Option Value} {a : Nat} {m : jmM} {Q : Option Value → jmM → Prop} : AW d 238 317 [l0, l1, l2, l3, l4, l5, l6, l7, l8] [.ref a] m Q ↔ (mS m a).1 = 12 ∧ AW d 238 320 [l0, l1, l2, l3, l4, l5, l6, l7, l8] [va_rf (mR m a 25)] m Q := A_getfield (f := fun m a => va_rf (mR m a 25)) hB_X12_minute dX12_minute_317 hO_X12_minute fF_12_51 rfl
theorem dX12_minute_320 : decode cX12_minute 320 = .ok (.bipush 15, 2) := by decide +kernel
theorem tX12_minute_320 {d : Nat} {l0 l1 l2 l3 l4 l5 l6 l7 l8 : Option Value} {v0 : Value} {m : jmM} {Q : Option Value → jmM → Prop} : AW d 238 320 [l0, l1, l2, l3, l4, l5, l6, l7, l8] [v0] m Q ↔ AW d 238 322 [l0, l1, l2, l3, l4, l5, l6, l7, l8] [.int 15, v0] m Q := A_bipush hB_X12_minute dX12_minute_320 rfl
theorem dX12_minute_322 : decode cX12_minute 322 = .ok (.dup2, 1) := by decide +kernel
theorem tX12_minute_322 {d : Nat} {l0 l1 l2 l3 l4 l5 l6 l7 l8 : Option Value} {x : Int32} {y : Nat} {m : jmM} {Q : Option Value → jmM → Prop} : AW d 238 322 [l0, l1, l2, l3, l4, l5, l6, l7, l8] [.int x, .ref y] m Q ↔ AW d 238 323 [l0, l1, l2, l3, l4, l5, l6, l7, l8] [.int x, .ref y, .int x, .ref y] m Q := A_dup2_ia hB_X12_minute dX12_minute_322
theorem dX12_minute_323 : decode cX12_minute 323 = .ok (.iaload, 1) := by decide +kernel
theorem tX12_minute_323 {d : Nat} {l0 l1 l2 l3 l4 l5 l6 l7 l8 : Option Value} {v2 v3 : Value} {i : Int32} {a : Nat} {m : jmM} {Q : Option Value → jmM → Prop} : AW d 238 323 [l0, l1, l2, l3, l4, l5, l6, l7, l8] [.int i, .ref a, v2, v3] m Q ↔ (((mS m a).1 = 20 ∨ a = jScr) ∧ jIx i (mS m a).2) ∧ AW d 238 324 [l0, l1, l2, l3, l4, l5, l6, l7, l8] [.int (mI m a (jx i)), v2, v3] m Q := A_iaload hB_X12_minute dX12_minute_323
theorem dX12_minute_324 : decode cX12_minute 324 = .ok (.iconst 1, 1) := by decide +kernel
theorem tX12_minute_324 {d : Nat} {l0 l1 l2 l3 l4 l5 l6 l7 l8 : Option Value} {v0 v1 v2 : Value} {m : jmM} {Q : Option Value → jmM → Prop} : AW d 238 324 [l0, l1, l2, l3, l4, l5, l6, l7, l8] [v0, v1, v2] m Q ↔ AW d 238 325 [l0, l1, l2, l3, l4, l5, l6, l7, l8] [.int 1, v0, v1, v2] m Q := A_iconst hB_X12_minute dX12_minute_324 (by decide)
theorem dX12_minute_325 : decode cX12_minute 325 = .ok (.iadd, 1) := by decide +kernel
theorem tX12_minute_325 {d : Nat} {l0 l1 l2 l3 l4 l5 l6 l7 l8 : Option Value} {v2 v3 : Value} {x y : Int32} {m : jmM} {Q : Option Value → jmM → Prop} : AW d 238 325 [l0, l1, l2, l3, l4, l5, l6, l7, l8] [.int y, .int x, v2, v3] m Q ↔ AW d 238 326 [l0, l1, l2, l3, l4, l5, l6, l7, l8] [.int (x + y), v2, v3] m Q := A_iadd hB_X12_minute dX12_minute_325
theorem dX12_minute_326 : decode cX12_minute 326 = .ok (.iastore, 1) := by decide +kernel
theorem tX12_minute_326 {d : Nat} {l0 l1 l2 l3 l4 l5 l6 l7 l8 : Option Value} {x i : Int32} {a : Nat} {m : jmM} {Q : Option Value → jmM → Prop} : AW d 238 326 [l0, l1, l2, l3, l4, l5, l6, l7, l8] [.int x, .int i, .ref a] m Q ↔ ((mS m a).1 = 20 ∧ jIx i (mS m a).2) ∧ AW d 238 327 [l0, l1, l2, l3, l4, l5, l6, l7, l8] [] (cI m a (jup (mI m a) (jx i) x)) Q := A_iastore hB_X12_minute dX12_minute_326
theorem dX12_minute_327 : decode cX12_minute 327 = .ok (.aload_n 0, 1) := by decide +kernel
theorem tX12_minute_327 {d : Nat} {l1 l2 l3 l4 l5 l6 l7 l8 : Option Value} {x : Nat} {m : jmM} {Q : Option Value → jmM → Prop} : AW d 238 327 [some (.ref x), l1, l2, l3, l4, l5, l6, l7, l8] [] m Q ↔ AW d 238 328 [some (.ref x), l1, l2, l3, l4, l5, l6, l7, l8] [.ref x] m Q := A_aload_n hB_X12_minute dX12_minute_327 rfl
theorem dX12_minute_328 : decode cX12_minute 328 = .ok (.getfield 51, 3) := by decide +kernel
theorem tX12_minute_328 {d : Nat} {l0 l1 l2 l3 l4 l5 l6 l7 l8 : Option Value} {a : Nat} {m : jmM} {Q : Option Value → jmM → Prop} : AW d 238 328 [l0, l1, l2, l3, l4, l5, l6, l7, l8] [.ref a] m Q ↔ (mS m a).1 = 12 ∧ AW d 238 331 [l0, l1, l2, l3, l4, l5, l6, l7, l8] [va_rf (mR m a 25)] m Q := A_getfield (f := fun m a => va_rf (mR m a 25)) hB_X12_minute dX12_minute_328 hO_X12_minute fF_12_51 rfl
theorem dX12_minute_331 : decode cX12_minute 331 = .ok (.iconst 0, 1) := by decide +kernel
theorem tX12_minute_331 {d : Nat} {l0 l1 l2 l3 l4 l5 l6 l7 l8 : Option Value} {v0 : Value} {m : jmM} {Q : Option Value → jmM → Prop} : AW d 238 331 [l0, l1, l2, l3, l4, l5, l6, l7, l8] [v0] m Q ↔ AW d 238 332 [l0, l1, l2, l3, l4, l5, l6, l7, l8] [.int 0, v0] m Q := A_iconst hB_X12_minute dX12_minute_331 (by decide)
theorem dX12_minute_332 : decode cX12_minute 332 = .ok (.aload_n 0, 1) := by decide +kernel
theorem tX12_minute_332 {d : Nat} {l1 l2 l3 l4 l5 l6 l7 l8 : Option Value} {v0 v1 : Value} {x : Nat} {m : jmM} {Q : Option Value → jmM → Prop} : AW d 238 332 [some (.ref x), l1, l2, l3, l4, l5, l6, l7, l8] [v0, v1] m Q ↔ AW d 238 333 [some (.ref x), l1, l2, l3, l4, l5, l6, l7, l8] [.ref x, v0, v1] m Q := A_aload_n hB_X12_minute dX12_minute_332 rfl
theorem dX12_minute_333 : decode cX12_minute 333 = .ok (.getfield 51, 3) := by decide +kernel
theorem tX12_minute_333 {d : Nat} {l0 l1 l2 l3 l4 l5 l6 l7 l8 : Option Value} {v1 v2 : Value} {a : Nat} {m : jmM} {Q : Option Value → jmM → Prop} : AW d 238 333 [l0, l1, l2, l3, l4, l5, l6, l7, l8] [.ref a, v1, v2] m Q ↔ (mS m a).1 = 12 ∧ AW d 238 336 [l0, l1, l2, l3, l4, l5, l6, l7, l8] [va_rf (mR m a 25), v1, v2] m Q := A_getfield (f := fun m a => va_rf (mR m a 25)) hB_X12_minute dX12_minute_333 hO_X12_minute fF_12_51 rfl
theorem dX12_minute_336 : decode cX12_minute 336 = .ok (.bipush 9, 2) := by decide +kernel
theorem tX12_minute_336 {d : Nat} {l0 l1 l2 l3 l4 l5 l6 l7 l8 : Option Value} {v0 v1 v2 : Value} {m : jmM} {Q : Option Value → jmM → Prop} : AW d 238 336 [l0, l1, l2, l3, l4, l5, l6, l7, l8] [v0, v1, v2] m Q ↔ AW d 238 338 [l0, l1, l2, l3, l4, l5, l6, l7, l8] [.int 9, v0, v1, v2] m Q := A_bipush hB_X12_minute dX12_minute_336 rfl
theorem dX12_minute_338 : decode cX12_minute 338 = .ok (.iaload, 1) := by decide +kernel
theorem tX12_minute_338 {d : Nat} {l0 l1 l2 l3 l4 l5 l6 l7 l8 : Option Value} {v2 v3 : Value} {i : Int32} {a : Nat} {m : jmM} {Q : Option Value → jmM → Prop} : AW d 238 338 [l0, l1, l2, l3, l4, l5, l6, l7, l8] [.int i, .ref a, v2, v3] m Q ↔ (((mS m a).1 = 20 ∨ a = jScr) ∧ jIx i (mS m a).2) ∧ AW d 238 339 [l0, l1, l2, l3, l4, l5, l6, l7, l8] [.int (mI m a (jx i)), v2, v3] m Q := A_iaload hB_X12_minute dX12_minute_338
theorem dX12_minute_339 : decode cX12_minute 339 = .ok (.ifCond .ne 7, 3) := by decide +kernel
theorem tX12_minute_339 {d : Nat} {l0 l1 l2 l3 l4 l5 l6 l7 l8 : Option Value} {v1 v2 : Value} {x : Int32} {m : jmM} {Q : Option Value → jmM → Prop} : AW d 238 339 [l0, l1, l2, l3, l4, l5, l6, l7, l8] [.int x, v1, v2] m Q ↔ if x = 0 then AW d 238 342 [l0, l1, l2, l3, l4, l5, l6, l7, l8] [v1, v2] m Q else AW d 238 346 [l0, l1, l2, l3, l4, l5, l6, l7, l8] [v1, v2] m Q := A_if_ne hB_X12_minute dX12_minute_339 (by decide)
theorem dX12_minute_342 : decode cX12_minute 342 = .ok (.iconst 2, 1) := by decide +kernel
theorem tX12_minute_342 {d : Nat} {l0 l1 l2 l3 l4 l5 l6 l7 l8 : Option Value} {v0 v1 : Value} {m : jmM} {Q : Option Value → jmM → Prop} : AW d 238 342 [l0, l1, l2, l3, l4, l5, l6, l7, l8] [v0, v1] m Q ↔ AW d 238 343 [l0, l1, l2, l3, l4, l5, l6, l7, l8] [.int 2, v0, v1] m Q := A_iconst hB_X12_minute dX12_minute_342 (by decide)
theorem dX12_minute_343 : decode cX12_minute 343 = .ok (.goto 56, 3) := by decide +kernel
theorem tX12_minute_343 {d : Nat} {l0 l1 l2 l3 l4 l5 l6 l7 l8 : Option Value} {v0 v1 v2 : Value} {m : jmM} {Q : Option Value → jmM → Prop} : AW d 238 343 [l0, l1, l2, l3, l4, l5, l6, l7, l8] [v0, v1, v2] m Q ↔ AW d 238 399 [l0, l1, l2, l3, l4, l5, l6, l7, l8] [v0, v1, v2] m Q := A_goto hB_X12_minute dX12_minute_343 (by decide)
theorem dX12_minute_346 : decode cX12_minute 346 = .ok (.aload_n 0, 1) := by decide +kernel
theorem tX12_minute_346 {d : Nat} {l1 l2 l3 l4 l5 l6 l7 l8 : Option Value} {v0 v1 : Value} {x : Nat} {m : jmM} {Q : Option Value → jmM → Prop} : AW d 238 346 [some (.ref x), l1, l2, l3, l4, l5, l6, l7, l8] [v0, v1] m Q ↔ AW d 238 347 [some (.ref x), l1, l2, l3, l4, l5, l6, l7, l8] [.ref x, v0, v1] m Q := A_aload_n hB_X12_minute dX12_minute_346 rfl
theorem dX12_minute_347 : decode cX12_minute 347 = .ok (.getfield 51, 3) := by decide +kernel
theorem tX12_minute_347 {d : Nat} {l0 l1 l2 l3 l4 l5 l6 l7 l8 : Option Value} {v1 v2 : Value} {a : Nat} {m : jmM} {Q : Option Value → jmM → Prop} : AW d 238 347 [l0, l1, l2, l3, l4, l5, l6, l7, l8] [.ref a, v1, v2] m Q ↔ (mS m a).1 = 12 ∧ AW d 238 350 [l0, l1, l2, l3, l4, l5, l6, l7, l8] [va_rf (mR m a 25), v1, v2] m Q := A_getfield (f := fun m a => va_rf (mR m a 25)) hB_X12_minute dX12_minute_347 hO_X12_minute fF_12_51 rfl
theorem dX12_minute_350 : decode cX12_minute 350 = .ok (.bipush 10, 2) := by decide +kernel
theorem tX12_minute_350 {d : Nat} {l0 l1 l2 l3 l4 l5 l6 l7 l8 : Option Value} {v0 v1 v2 : Value} {m : jmM} {Q : Option Value → jmM → Prop} : AW d 238 350 [l0, l1, l2, l3, l4, l5, l6, l7, l8] [v0, v1, v2] m Q ↔ AW d 238 352 [l0, l1, l2, l3, l4, l5, l6, l7, l8] [.int 10, v0, v1, v2] m Q := A_bipush hB_X12_minute dX12_minute_350 rfl
theorem dX12_minute_352 : decode cX12_minute 352 = .ok (.iaload, 1) := by decide +kernel
theorem tX12_minute_352 {d : Nat} {l0 l1 l2 l3 l4 l5 l6 l7 l8 : Option Value} {v2 v3 : Value} {i : Int32} {a : Nat} {m : jmM} {Q : Option Value → jmM → Prop} : AW d 238 352 [l0, l1, l2, l3, l4, l5, l6, l7, l8] [.int i, .ref a, v2, v3] m Q ↔ (((mS m a).1 = 20 ∨ a = jScr) ∧ jIx i (mS m a).2) ∧ AW d 238 353 [l0, l1, l2, l3, l4, l5, l6, l7, l8] [.int (mI m a (jx i)), v2, v3] m Q := A_iaload hB_X12_minute dX12_minute_352
theorem dX12_minute_353 : decode cX12_minute 353 = .ok (.ifCond .ne 7, 3) := by decide +kernel
theorem tX12_minute_353 {d : Nat} {l0 l1 l2 l3 l4 l5 l6 l7 l8 : Option Value} {v1 v2 : Value} {x : Int32} {m : jmM} {Q : Option Value → jmM → Prop} : AW d 238 353 [l0, l1, l2, l3, l4, l5, l6, l7, l8] [.int x, v1, v2] m Q ↔ if x = 0 then AW d 238 356 [l0, l1, l2, l3, l4, l5, l6, l7, l8] [v1, v2] m Q else AW d 238 360 [l0, l1, l2, l3, l4, l5, l6, l7, l8] [v1, v2] m Q := A_if_ne hB_X12_minute dX12_minute_353 (by decide)
theorem dX12_minute_356 : decode cX12_minute 356 = .ok (.iconst 3, 1) := by decide +kernel
theorem tX12_minute_356 {d : Nat} {l0 l1 l2 l3 l4 l5 l6 l7 l8 : Option Value} {v0 v1 : Value} {m : jmM} {Q : Option Value → jmM → Prop} : AW d 238 356 [l0, l1, l2, l3, l4, l5, l6, l7, l8] [v0, v1] m Q ↔ AW d 238 357 [l0, l1, l2, l3, l4, l5, l6, l7, l8] [.int 3, v0, v1] m Q := A_iconst hB_X12_minute dX12_minute_356 (by decide)
theorem dX12_minute_357 : decode cX12_minute 357 = .ok (.goto 42, 3) := by decide +kernel
theorem tX12_minute_357 {d : Nat} {l0 l1 l2 l3 l4 l5 l6 l7 l8 : Option Value} {v0 v1 v2 : Value} {m : jmM} {Q : Option Value → jmM → Prop} : AW d 238 357 [l0, l1, l2, l3, l4, l5, l6, l7, l8] [v0, v1, v2] m Q ↔ AW d 238 399 [l0, l1, l2, l3, l4, l5, l6, l7, l8] [v0, v1, v2] m Q := A_goto hB_X12_minute dX12_minute_357 (by decide)
theorem dX12_minute_360 : decode cX12_minute 360 = .ok (.aload_n 0, 1) := by decide +kernel
theorem tX12_minute_360 {d : Nat} {l1 l2 l3 l4 l5 l6 l7 l8 : Option Value} {v0 v1 : Value} {x : Nat} {m : jmM} {Q : Option Value → jmM → Prop} : AW d 238 360 [some (.ref x), l1, l2, l3, l4, l5, l6, l7, l8] [v0, v1] m Q ↔ AW d 238 361 [some (.ref x), l1, l2, l3, l4, l5, l6, l7, l8] [.ref x, v0, v1] m Q := A_aload_n hB_X12_minute dX12_minute_360 rfl
theorem dX12_minute_361 : decode cX12_minute 361 = .ok (.getfield 51, 3) := by decide +kernel
theorem tX12_minute_361 {d : Nat} {l0 l1 l2 l3 l4 l5 l6 l7 l8 : Option Value} {v1 v2 : Value} {a : Nat} {m : jmM} {Q : Option Value → jmM → Prop} : AW d 238 361 [l0, l1, l2, l3, l4, l5, l6, l7, l8] [.ref a, v1, v2] m Q ↔ (mS m a).1 = 12 ∧ AW d 238 364 [l0, l1, l2, l3, l4, l5, l6, l7, l8] [va_rf (mR m a 25), v1, v2] m Q := A_getfield (f := fun m a => va_rf (mR m a 25)) hB_X12_minute dX12_minute_361 hO_X12_minute fF_12_51 rfl
theorem dX12_minute_364 : decode cX12_minute 364 = .ok (.bipush 15, 2) := by decide +kernel
theorem tX12_minute_364 {d : Nat} {l0 l1 l2 l3 l4 l5 l6 l7 l8 : Option Value} {v0 v1 v2 : Value} {m : jmM} {Q : Option Value → jmM → Prop} : AW d 238 364 [l0, l1, l2, l3, l4, l5, l6, l7, l8] [v0, v1, v2] m Q ↔ AW d 238 366 [l0, l1, l2, l3, l4, l5, l6, l7, l8] [.int 15, v0, v1, v2] m Q := A_bipush hB_X12_minute dX12_minute_364 rfl
theorem dX12_minute_366 : decode cX12_minute 366 = .ok (.iaload, 1) := by decide +kernel
theorem tX12_minute_366 {d : Nat} {l0 l1 l2 l3 l4 l5 l6 l7 l8 : Option Value} {v2 v3 : Value} {i : Int32} {a : Nat} {m : jmM} {Q : Option Value → jmM → Prop} : AW d 238 366 [l0, l1, l2, l3, l4, l5, l6, l7, l8] [.int i, .ref a, v2, v3] m Q ↔ (((mS m a).1 = 20 ∨ a = jScr) ∧ jIx i (mS m a).2) ∧ AW d 238 367 [l0, l1, l2, l3, l4, l5, l6, l7, l8] [.int (mI m a (jx i)), v2, v3] m Q := A_iaload hB_X12_minute dX12_minute_366
theorem dX12_minute_367 : decode cX12_minute 367 = .ok (.sipush 600, 3) := by decide +kernel
theorem tX12_minute_367 {d : Nat} {l0 l1 l2 l3 l4 l5 l6 l7 l8 : Option Value} {v0 v1 v2 : Value} {m : jmM} {Q : Option Value → jmM → Prop} : AW d 238 367 [l0, l1, l2, l3, l4, l5, l6, l7, l8] [v0, v1, v2] m Q ↔ AW d 238 370 [l0, l1, l2, l3, l4, l5, l6, l7, l8] [.int 600, v0, v1, v2] m Q := A_sipush hB_X12_minute dX12_minute_367 rfl
theorem dX12_minute_370 : decode cX12_minute 370 = .ok (.if_icmp .ne 7, 3) := by decide +kernel
theorem tX12_minute_370 {d : Nat} {l0 l1 l2 l3 l4 l5 l6 l7 l8 : Option Value} {v2 v3 : Value} {x y : Int32} {m : jmM} {Q : Option Value → jmM → Prop} : AW d 238 370 [l0, l1, l2, l3, l4, l5, l6, l7, l8] [.int y, .int x, v2, v3] m Q ↔ if x = y then AW d 238 373 [l0, l1, l2, l3, l4, l5, l6, l7, l8] [v2, v3] m Q else AW d 238 377 [l0, l1, l2, l3, l4, l5, l6, l7, l8] [v2, v3] m Q := A_icmp_ne hB_X12_minute dX12_minute_370 (by decide)
theorem dX12_minute_373 : decode cX12_minute 373 = .ok (.iconst 4, 1) := by decide +kernel
theorem tX12_minute_373 {d : Nat} {l0 l1 l2 l3 l4 l5 l6 l7 l8 : Option Value} {v0 v1 : Value} {m : jmM} {Q : Option Value → jmM → Prop} : AW d 238 373 [l0, l1, l2, l3, l4, l5, l6, l7, l8] [v0, v1] m Q ↔ AW d 238 374 [l0, l1, l2, l3, l4, l5, l6, l7, l8] [.int 4, v0, v1] m Q := A_iconst hB_X12_minute dX12_minute_373 (by decide)
theorem dX12_minute_374 : decode cX12_minute 374 = .ok (.goto 25, 3) := by decide +kernel
theorem tX12_minute_374 {d : Nat} {l0 l1 l2 l3 l4 l5 l6 l7 l8 : Option Value} {v0 v1 v2 : Value} {m : jmM} {Q : Option Value → jmM → Prop} : AW d 238 374 [l0, l1, l2, l3, l4, l5, l6, l7, l8] [v0, v1, v2] m Q ↔ AW d 238 399 [l0, l1, l2, l3, l4, l5, l6, l7, l8] [v0, v1, v2] m Q := A_goto hB_X12_minute dX12_minute_374 (by decide)
theorem dX12_minute_377 : decode cX12_minute 377 = .ok (.aload_n 0, 1) := by decide +kernel
theorem tX12_minute_377 {d : Nat} {l1 l2 l3 l4 l5 l6 l7 l8 : Option Value} {v0 v1 : Value} {x : Nat} {m : jmM} {Q : Option Value → jmM → Prop} : AW d 238 377 [some (.ref x), l1, l2, l3, l4, l5, l6, l7, l8] [v0, v1] m Q ↔ AW d 238 378 [some (.ref x), l1, l2, l3, l4, l5, l6, l7, l8] [.ref x, v0, v1] m Q := A_aload_n hB_X12_minute dX12_minute_377 rfl
theorem dX12_minute_378 : decode cX12_minute 378 = .ok (.getfield 51, 3) := by decide +kernel
theorem tX12_minute_378 {d : Nat} {l0 l1 l2 l3 l4 l5 l6 l7 l8 : Option Value} {v1 v2 : Value} {a : Nat} {m : jmM} {Q : Option Value → jmM → Prop} : AW d 238 378 [l0, l1, l2, l3, l4, l5, l6, l7, l8] [.ref a, v1, v2] m Q ↔ (mS m a).1 = 12 ∧ AW d 238 381 [l0, l1, l2, l3, l4, l5, l6, l7, l8] [va_rf (mR m a 25), v1, v2] m Q := A_getfield (f := fun m a => va_rf (mR m a 25)) hB_X12_minute dX12_minute_378 hO_X12_minute fF_12_51 rfl
theorem dX12_minute_381 : decode cX12_minute 381 = .ok (.bipush 14, 2) := by decide +kernel
theorem tX12_minute_381 {d : Nat} {l0 l1 l2 l3 l4 l5 l6 l7 l8 : Option Value} {v0 v1 v2 : Value} {m : jmM} {Q : Option Value → jmM → Prop} : AW d 238 381 [l0, l1, l2, l3, l4, l5, l6, l7, l8] [v0, v1, v2] m Q ↔ AW d 238 383 [l0, l1, l2, l3, l4, l5, l6, l7, l8] [.int 14, v0, v1, v2] m Q := A_bipush hB_X12_minute dX12_minute_381 rfl
theorem dX12_minute_383 : decode cX12_minute 383 = .ok (.iaload, 1) := by decide +kernel
theorem tX12_minute_383 {d : Nat} {l0 l1 l2 l3 l4 l5 l6 l7 l8 : Option Value} {v2 v3 : Value} {i : Int32} {a : Nat} {m : jmM} {Q : Option Value → jmM → Prop} : AW d 238 383 [l0, l1, l2, l3, l4, l5, l6, l7, l8] [.int i, .ref a, v2, v3] m Q ↔ (((mS m a).1 = 20 ∨ a = jScr) ∧ jIx i (mS m a).2) ∧ AW d 238 384 [l0, l1, l2, l3, l4, l5, l6, l7, l8] [.int (mI m a (jx i)), v2, v3] m Q := A_iaload hB_X12_minute dX12_minute_383
theorem dX12_minute_384 : decode cX12_minute 384 = .ok (.aload_n 0, 1) := by decide +kernel
theorem tX12_minute_384 {d : Nat} {l1 l2 l3 l4 l5 l6 l7 l8 : Option Value} {v0 v1 v2 : Value} {x : Nat} {m : jmM} {Q : Option Value → jmM → Prop} : AW d 238 384 [some (.ref x), l1, l2, l3, l4, l5, l6, l7, l8] [v0, v1, v2] m Q ↔ AW d 238 385 [some (.ref x), l1, l2, l3, l4, l5, l6, l7, l8] [.ref x, v0, v1, v2] m Q := A_aload_n hB_X12_minute dX12_minute_384 rfl
theorem dX12_minute_385 : decode cX12_minute 385 = .ok (.getfield 51, 3) := by decide +kernel
theorem tX12_minute_385 {d : Nat} {l0 l1 l2 l3 l4 l5 l6 l7 l8 : Option Value} {v1 v2 v3 : Value} {a : Nat} {m : jmM} {Q : Option Value → jmM → Prop} : AW d 238 385 [l0, l1, l2, l3, l4, l5, l6, l7, l8] [.ref a, v1, v2, v3] m Q ↔ (mS m a).1 = 12 ∧ AW d 238 388 [l0, l1, l2, l3, l4, l5, l6, l7, l8] [va_rf (mR m a 25), v1, v2, v3] m Q := A_getfield (f := fun m a => va_rf (mR m a 25)) hB_X12_minute dX12_minute_385 hO_X12_minute fF_12_51 rfl
theorem dX12_minute_388 : decode cX12_minute 388 = .ok (.bipush 7, 2) := by decide +kernel
theorem tX12_minute_388 {d : Nat} {l0 l1 l2 l3 l4 l5 l6 l7 l8 : Option Value} {v0 v1 v2 v3 : Value} {m : jmM} {Q : Option Value → jmM → Prop} : AW d 238 388 [l0, l1, l2, l3, l4, l5, l6, l7, l8] [v0, v1, v2, v3] m Q ↔ AW d 238 390 [l0, l1, l2, l3, l4, l5, l6, l7, l8] [.int 7, v0, v1, v2, v3] m Q := A_bipush hB_X12_minute dX12_minute_388 rfl
theorem dX12_minute_390 : decode cX12_minute 390 = .ok (.iaload, 1) := by decide +kernel
theorem tX12_minute_390 {d : Nat} {l0 l1 l2 l3 l4 l5 l6 l7 l8 : Option Value} {v2 v3 v4 : Value} {i : Int32} {a : Nat} {m : jmM} {Q : Option Value → jmM → Prop} : AW d 238 390 [l0, l1, l2, l3, l4, l5, l6, l7, l8] [.int i, .ref a, v2, v3, v4] m Q ↔ (((mS m a).1 = 20 ∨ a = jScr) ∧ jIx i (mS m a).2) ∧ AW d 238 391 [l0, l1, l2, l3, l4, l5, l6, l7, l8] [.int (mI m a (jx i)), v2, v3, v4] m Q := A_iaload hB_X12_minute dX12_minute_390
theorem dX12_minute_391 : decode cX12_minute 391 = .ok (.if_icmp .lt 7, 3) := by decide +kernel
theorem tX12_minute_391 {d : Nat} {l0 l1 l2 l3 l4 l5 l6 l7 l8 : Option Value} {v2 v3 : Value} {x y : Int32} {m : jmM} {Q : Option Value → jmM → Prop} : AW d 238 391 [l0, l1, l2, l3, l4, l5, l6, l7, l8] [.int y, .int x, v2, v3] m Q ↔ if x < y then AW d 238 398 [l0, l1, l2, l3, l4, l5, l6, l7, l8] [v2, v3] m Q else AW d 238 394 [l0, l1, l2, l3, l4, l5, l6, l7, l8] [v2, v3] m Q := A_icmp_lt hB_X12_minute dX12_minute_391 (by decide)
theorem dX12_minute_394 : decode cX12_minute 394 = .ok (.iconst 5, 1) := by decide +kernel
theorem tX12_minute_394 {d : Nat} {l0 l1 l2 l3 l4 l5 l6 l7 l8 : Option Value} {v0 v1 : Value} {m : jmM} {Q : Option Value → jmM → Prop} : AW d 238 394 [l0, l1, l2, l3, l4, l5, l6, l7, l8] [v0, v1] m Q ↔ AW d 238 395 [l0, l1, l2, l3, l4, l5, l6, l7, l8] [.int 5, v0, v1] m Q := A_iconst hB_X12_minute dX12_minute_394 (by decide)
theorem dX12_minute_395 : decode cX12_minute 395 = .ok (.goto 4, 3) := by decide +kernel
theorem tX12_minute_395 {d : Nat} {l0 l1 l2 l3 l4 l5 l6 l7 l8 : Option Value} {v0 v1 v2 : Value} {m : jmM} {Q : Option Value → jmM → Prop} : AW d 238 395 [l0, l1, l2, l3, l4, l5, l6, l7, l8] [v0, v1, v2] m Q ↔ AW d 238 399 [l0, l1, l2, l3, l4, l5, l6, l7, l8] [v0, v1, v2] m Q := A_goto hB_X12_minute dX12_minute_395 (by decide)
theorem dX12_minute_398 : decode cX12_minute 398 = .ok (.iconst 1, 1) := by decide +kernel
theorem tX12_minute_398 {d : Nat} {l0 l1 l2 l3 l4 l5 l6 l7 l8 : Option Value} {v0 v1 : Value} {m : jmM} {Q : Option Value → jmM → Prop} : AW d 238 398 [l0, l1, l2, l3, l4, l5, l6, l7, l8] [v0, v1] m Q ↔ AW d 238 399 [l0, l1, l2, l3, l4, l5, l6, l7, l8] [.int 1, v0, v1] m Q := A_iconst hB_X12_minute dX12_minute_398 (by decide)
theorem dX12_minute_399 : decode cX12_minute 399 = .ok (.iastore, 1) := by decide +kernel
theorem tX12_minute_399 {d : Nat} {l0 l1 l2 l3 l4 l5 l6 l7 l8 : Option Value} {x i : Int32} {a : Nat} {m : jmM} {Q : Option Value → jmM → Prop} : AW d 238 399 [l0, l1, l2, l3, l4, l5, l6, l7, l8] [.int x, .int i, .ref a] m Q ↔ ((mS m a).1 = 20 ∧ jIx i (mS m a).2) ∧ AW d 238 400 [l0, l1, l2, l3, l4, l5, l6, l7, l8] [] (cI m a (jup (mI m a) (jx i) x)) Q := A_iastore hB_X12_minute dX12_minute_399
theorem dX12_minute_400 : decode cX12_minute 400 = .ok (.return_, 1) := by decide +kernel
theorem tX12_minute_400 {d : Nat} {l0 l1 l2 l3 l4 l5 l6 l7 l8 : Option Value} {m : jmM} {Q : Option Value → jmM → Prop} : AW d 238 400 [l0, l1, l2, l3, l4, l5, l6, l7, l8] [] m Q ↔ Q none m := A_return hB_X12_minute dX12_minute_400 hR_X12_minute
theorem hB_X12_goesOn : jB 239 = cX12_goesOn := rfl
theorem hO_X12_goesOn : jO 239 = 12 := rfl
theorem hR_X12_goesOn : jRt 239 = (some .int) := rfl
theorem nX12_goesOn (d : Nat) (x0 : Nat) (x1 : Int32) (m : jmM) (Q : Option Value → jmM → Prop) : CC (d + 1) 239 [.ref x0, .int x1] m Q ↔ AW d 239 0 [some (.ref x0), some (.int x1), none] [] m Q := CC_body (Nat.le_of_ble_eq_true rfl)
theorem dX12_goesOn_0 : decode cX12_goesOn 0 = .ok (.iconst 0, 1) := by decide +kernel
theorem tX12_goesOn_0 {d : Nat} {l0 l1 l2 : Option Value} {m : jmM} {Q : Option Value → jmM → Prop} : AW d 239 0 [l0, l1, l2] [] m Q ↔ AW d 239 1 [l0, l1, l2] [.int 0] m Q := A_iconst hB_X12_goesOn dX12_goesOn_0 (by decide)
theorem dX12_goesOn_1 : decode cX12_goesOn 1 = .ok (.istore_n 2, 1) := by decide +kernel
theorem tX12_goesOn_1 {d : Nat} {l0 l1 l2 : Option Value} {x : Int32} {m : jmM} {Q : Option Value → jmM → Prop} : AW d 239 1 [l0, l1, l2] [.int x] m Q ↔ AW d 239 2 [l0, jc1 l1, some (.int x)] [] m Q := A_istore_n hB_X12_goesOn dX12_goesOn_1 (Nat.le_of_ble_eq_true rfl) rfl
theorem dX12_goesOn_2 : decode cX12_goesOn 2 = .ok (.iload_n 2, 1) := by decide +kernel
theorem tX12_goesOn_2 {d : Nat} {l0 l1 : Option Value} {x : Int32} {m : jmM} {Q : Option Value → jmM → Prop} : AW d 239 2 [l0, l1, some (.int x)] [] m Q ↔ AW d 239 3 [l0, l1, some (.int x)] [.int x] m Q := A_iload_n hB_X12_goesOn dX12_goesOn_2 rfl
theorem dX12_goesOn_3 : decode cX12_goesOn 3 = .ok (.iload_n 1, 1) := by decide +kernel
theorem tX12_goesOn_3 {d : Nat} {l0 l2 : Option Value} {v0 : Value} {x : Int32} {m : jmM} {Q : Option Value → jmM → Prop} : AW d 239 3 [l0, some (.int x), l2] [v0] m Q ↔ AW d 239 4 [l0, some (.int x), l2] [.int x, v0] m Q := A_iload_n hB_X12_goesOn dX12_goesOn_3 rfl
theorem dX12_goesOn_4 : decode cX12_goesOn 4 = .ok (.if_icmp .ge 23, 3) := by decide +kernel
theorem tX12_goesOn_4 {d : Nat} {l0 l1 l2 : Option Value} {x y : Int32} {m : jmM} {Q : Option Value → jmM → Prop} : AW d 239 4 [l0, l1, l2] [.int y, .int x] m Q ↔ if y ≤ x then AW d 239 27 [l0, l1, l2] [] m Q else AW d 239 7 [l0, l1, l2] [] m Q := A_icmp_ge hB_X12_goesOn dX12_goesOn_4 (by decide)
theorem dX12_goesOn_7 : decode cX12_goesOn 7 = .ok (.aload_n 0, 1) := by decide +kernel
theorem tX12_goesOn_7 {d : Nat} {l1 l2 : Option Value} {x : Nat} {m : jmM} {Q : Option Value → jmM → Prop} : AW d 239 7 [some (.ref x), l1, l2] [] m Q ↔ AW d 239 8 [some (.ref x), l1, l2] [.ref x] m Q := A_aload_n hB_X12_goesOn dX12_goesOn_7 rfl
theorem dX12_goesOn_8 : decode cX12_goesOn 8 = .ok (.getfield 51, 3) := by decide +kernel
theorem tX12_goesOn_8 {d : Nat} {l0 l1 l2 : Option Value} {a : Nat} {m : jmM} {Q : Option Value → jmM → Prop} : AW d 239 8 [l0, l1, l2] [.ref a] m Q ↔ (mS m a).1 = 12 ∧ AW d 239 11 [l0, l1, l2] [va_rf (mR m a 25)] m Q := A_getfield (f := fun m a => va_rf (mR m a 25)) hB_X12_goesOn dX12_goesOn_8 hO_X12_goesOn fF_12_51 rfl
theorem dX12_goesOn_11 : decode cX12_goesOn 11 = .ok (.iconst 0, 1) := by decide +kernel
theorem tX12_goesOn_11 {d : Nat} {l0 l1 l2 : Option Value} {v0 : Value} {m : jmM} {Q : Option Value → jmM → Prop} : AW d 239 11 [l0, l1, l2] [v0] m Q ↔ AW d 239 12 [l0, l1, l2] [.int 0, v0] m Q := A_iconst hB_X12_goesOn dX12_goesOn_11 (by decide)
theorem dX12_goesOn_12 : decode cX12_goesOn 12 = .ok (.iaload, 1) := by decide +kernel
theorem tX12_goesOn_12 {d : Nat} {l0 l1 l2 : Option Value} {i : Int32} {a : Nat} {m : jmM} {Q : Option Value → jmM → Prop} : AW d 239 12 [l0, l1, l2] [.int i, .ref a] m Q ↔ (((mS m a).1 = 20 ∨ a = jScr) ∧ jIx i (mS m a).2) ∧ AW d 239 13 [l0, l1, l2] [.int (mI m a (jx i))] m Q := A_iaload hB_X12_goesOn dX12_goesOn_12
theorem dX12_goesOn_13 : decode cX12_goesOn 13 = .ok (.iconst 1, 1) := by decide +kernel
theorem tX12_goesOn_13 {d : Nat} {l0 l1 l2 : Option Value} {v0 : Value} {m : jmM} {Q : Option Value → jmM → Prop} : AW d 239 13 [l0, l1, l2] [v0] m Q ↔ AW d 239 14 [l0, l1, l2] [.int 1, v0] m Q := A_iconst hB_X12_goesOn dX12_goesOn_13 (by decide)
theorem dX12_goesOn_14 : decode cX12_goesOn 14 = .ok (.if_icmp .ne 13, 3) := by decide +kernel
theorem tX12_goesOn_14 {d : Nat} {l0 l1 l2 : Option Value} {x y : Int32} {m : jmM} {Q : Option Value → jmM → Prop} : AW d 239 14 [l0, l1, l2] [.int y, .int x] m Q ↔ if x = y then AW d 239 17 [l0, l1, l2] [] m Q else AW d 239 27 [l0, l1, l2] [] m Q := A_icmp_ne hB_X12_goesOn dX12_goesOn_14 (by decide)
theorem dX12_goesOn_17 : decode cX12_goesOn 17 = .ok (.aload_n 0, 1) := by decide +kernel
theorem tX12_goesOn_17 {d : Nat} {l1 l2 : Option Value} {x : Nat} {m : jmM} {Q : Option Value → jmM → Prop} : AW d 239 17 [some (.ref x), l1, l2] [] m Q ↔ AW d 239 18 [some (.ref x), l1, l2] [.ref x] m Q := A_aload_n hB_X12_goesOn dX12_goesOn_17 rfl
theorem dX12_goesOn_18 : decode cX12_goesOn 18 = .ok (.invokevirtual 341, 3) := by decide +kernel
theorem tX12_goesOn_18 {d : Nat} {l0 l1 l2 : Option Value} {a : Nat} {m : jmM} {Q : Option Value → jmM → Prop} : AW d 239 18 [l0, l1, l2] [.ref a] m Q ↔ (mS m a).1 = 12 ∧ CC d 238 [.ref a] m (jK d 239 21 [l0, l1, l2] [] Q) := A_callV hB_X12_goesOn dX12_goesOn_18 hO_X12_goesOn fS_12_341 ⟨Nat.le_of_ble_eq_true rfl, Nat.le_of_ble_eq_true rfl⟩ rfl rfl rfl
theorem dX12_goesOn_21 : decode cX12_goesOn 21 = .ok (.iinc 2 1, 3) := by decide +kernel
theorem tX12_goesOn_21 {d : Nat} {l0 l1 : Option Value} {x : Int32} {m : jmM} {Q : Option Value → jmM → Prop} : AW d 239 21 [l0, l1, some (.int x)] [] m Q ↔ AW d 239 24 [l0, jc1 l1, some (.int (x + 1))] [] m Q := A_iinc hB_X12_goesOn dX12_goesOn_21 rfl (Nat.le_of_ble_eq_true rfl) (v := 1) (by decide) rfl
theorem dX12_goesOn_24 : decode cX12_goesOn 24 = .ok (.goto (-22), 3) := by decide +kernel
theorem tX12_goesOn_24 {d : Nat} {l0 l1 l2 : Option Value} {m : jmM} {Q : Option Value → jmM → Prop} : AW d 239 24 [l0, l1, l2] [] m Q ↔ AW d 239 2 [l0, l1, l2] [] m Q := A_goto hB_X12_goesOn dX12_goesOn_24 (by decide)
theorem dX12_goesOn_27 : decode cX12_goesOn 27 = .ok (.iload_n 2, 1) := by decide +kernel
theorem tX12_goesOn_27 {d : Nat} {l0 l1 : Option Value} {x : Int32} {m : jmM} {Q : Option Value → jmM → Prop} : AW d 239 27 [l0, l1, some (.int x)] [] m Q ↔ AW d 239 28 [l0, l1, some (.int x)] [.int x] m Q := A_iload_n hB_X12_goesOn dX12_goesOn_27 rfl
theorem dX12_goesOn_28 : decode cX12_goesOn 28 = .ok (.ireturn, 1) := by decide +kernel
theorem tX12_goesOn_28 {d : Nat} {l0 l1 l2 : Option Value} {x : Int32} {m : jmM} {Q : Option Value → jmM → Prop} : AW d 239 28 [l0, l1, l2] [.int x] m Q ↔ Q (some (.int x)) m := A_ireturn hB_X12_goesOn dX12_goesOn_28 hR_X12_goesOn
theorem hB_X12_grow : jB 240 = cX12_grow := rfl
theorem hO_X12_grow : jO 240 = 12 := rfl
theorem hR_X12_grow : jRt 240 = (some .int) := rfl
theorem nX12_grow (d : Nat) (x0 : Nat) (x1 : Int32) (m : jmM) (Q : Option Value → jmM → Prop) : CC (d + 1) 240 [.ref x0, .int x1] m Q ↔ AW d 240 0 [some (.ref x0), some (.int x1)] [] m Q := CC_body (Nat.le_of_ble_eq_true rfl)
theorem dX12_grow_0 : decode cX12_grow 0 = .ok (.aload_n 0, 1) := by decide +kernel
theorem tX12_grow_0 {d : Nat} {l1 : Option Value} {x : Nat} {m : jmM} {Q : Option Value → jmM → Prop} : AW d 240 0 [some (.ref x), l1] [] m Q ↔ AW d 240 1 [some (.ref x), l1] [.ref x] m Q := A_aload_n hB_X12_grow dX12_grow_0 rfl
theorem dX12_grow_1 : decode cX12_grow 1 = .ok (.getfield 51, 3) := by decide +kernel
theorem tX12_grow_1 {d : Nat} {l0 l1 : Option Value} {a : Nat} {m : jmM} {Q : Option Value → jmM → Prop} : AW d 240 1 [l0, l1] [.ref a] m Q ↔ (mS m a).1 = 12 ∧ AW d 240 4 [l0, l1] [va_rf (mR m a 25)] m Q := A_getfield (f := fun m a => va_rf (mR m a 25)) hB_X12_grow dX12_grow_1 hO_X12_grow fF_12_51 rfl
theorem dX12_grow_4 : decode cX12_grow 4 = .ok (.iconst 0, 1) := by decide +kernel
theorem tX12_grow_4 {d : Nat} {l0 l1 : Option Value} {v0 : Value} {m : jmM} {Q : Option Value → jmM → Prop} : AW d 240 4 [l0, l1] [v0] m Q ↔ AW d 240 5 [l0, l1] [.int 0, v0] m Q := A_iconst hB_X12_grow dX12_grow_4 (by decide)
theorem dX12_grow_5 : decode cX12_grow 5 = .ok (.iaload, 1) := by decide +kernel
theorem tX12_grow_5 {d : Nat} {l0 l1 : Option Value} {i : Int32} {a : Nat} {m : jmM} {Q : Option Value → jmM → Prop} : AW d 240 5 [l0, l1] [.int i, .ref a] m Q ↔ (((mS m a).1 = 20 ∨ a = jScr) ∧ jIx i (mS m a).2) ∧ AW d 240 6 [l0, l1] [.int (mI m a (jx i))] m Q := A_iaload hB_X12_grow dX12_grow_5
theorem dX12_grow_6 : decode cX12_grow 6 = .ok (.ifCond .eq 15, 3) := by decide +kernel
theorem tX12_grow_6 {d : Nat} {l0 l1 : Option Value} {x : Int32} {m : jmM} {Q : Option Value → jmM → Prop} : AW d 240 6 [l0, l1] [.int x] m Q ↔ if x = 0 then AW d 240 21 [l0, l1] [] m Q else AW d 240 9 [l0, l1] [] m Q := A_if_eq hB_X12_grow dX12_grow_6 (by decide)
theorem dX12_grow_9 : decode cX12_grow 9 = .ok (.iload_n 1, 1) := by decide +kernel
theorem tX12_grow_9 {d : Nat} {l0 : Option Value} {x : Int32} {m : jmM} {Q : Option Value → jmM → Prop} : AW d 240 9 [l0, some (.int x)] [] m Q ↔ AW d 240 10 [l0, some (.int x)] [.int x] m Q := A_iload_n hB_X12_grow dX12_grow_9 rfl
theorem dX12_grow_10 : decode cX12_grow 10 = .ok (.i2l, 1) := by decide +kernel
theorem tX12_grow_10 {d : Nat} {l0 l1 : Option Value} {x : Int32} {m : jmM} {Q : Option Value → jmM → Prop} : AW d 240 10 [l0, l1] [.int x] m Q ↔ AW d 240 11 [l0, l1] [.long x.toInt64] m Q := A_i2l hB_X12_grow dX12_grow_10
theorem dX12_grow_11 : decode cX12_grow 11 = .ok (.lconst 0, 1) := by decide +kernel
theorem tX12_grow_11 {d : Nat} {l0 l1 : Option Value} {v0 : Value} {m : jmM} {Q : Option Value → jmM → Prop} : AW d 240 11 [l0, l1] [v0] m Q ↔ AW d 240 12 [l0, l1] [.long 0, v0] m Q := A_lconst hB_X12_grow dX12_grow_11 (by decide)
theorem dX12_grow_12 : decode cX12_grow 12 = .ok (.ldc2_w 344, 3) := by decide +kernel
theorem tX12_grow_12 {d : Nat} {l0 l1 : Option Value} {v0 v1 : Value} {m : jmM} {Q : Option Value → jmM → Prop} : AW d 240 12 [l0, l1] [v0, v1] m Q ↔ AW d 240 15 [l0, l1] [.long 600, v0, v1] m Q := A_ldc2_w hB_X12_grow dX12_grow_12 hO_X12_grow fL2_12_344
theorem dX12_grow_15 : decode cX12_grow 15 = .ok (.invokestatic 281, 3) := by decide +kernel
theorem tX12_grow_15 {d : Nat} {l0 l1 : Option Value} {y0 y1 y2 : Value} {m : jmM} {Q : Option Value → jmM → Prop} : AW d 240 15 [l0, l1] [y0, y1, y2] m Q ↔ CC d 189 [y2, y1, y0] m (jK d 240 18 [l0, l1] [] Q) := A_callS0 hB_X12_grow dX12_grow_15 hO_X12_grow fS_12_281 ⟨Nat.le_of_ble_eq_true rfl, Nat.le_of_ble_eq_true rfl⟩ rfl rfl
theorem dX12_grow_18 : decode cX12_grow 18 = .ok (.ifCond .ne 7, 3) := by decide +kernel
theorem tX12_grow_18 {d : Nat} {l0 l1 : Option Value} {x : Int32} {m : jmM} {Q : Option Value → jmM → Prop} : AW d 240 18 [l0, l1] [.int x] m Q ↔ if x = 0 then AW d 240 21 [l0, l1] [] m Q else AW d 240 25 [l0, l1] [] m Q := A_if_ne hB_X12_grow dX12_grow_18 (by decide)
theorem dX12_grow_21 : decode cX12_grow 21 = .ok (.iconst (-1), 1) := by decide +kernel
theorem tX12_grow_21 {d : Nat} {l0 l1 : Option Value} {m : jmM} {Q : Option Value → jmM → Prop} : AW d 240 21 [l0, l1] [] m Q ↔ AW d 240 22 [l0, l1] [.int (-1)] m Q := A_iconst hB_X12_grow dX12_grow_21 (by decide)
theorem dX12_grow_22 : decode cX12_grow 22 = .ok (.goto 8, 3) := by decide +kernel
theorem tX12_grow_22 {d : Nat} {l0 l1 : Option Value} {v0 : Value} {m : jmM} {Q : Option Value → jmM → Prop} : AW d 240 22 [l0, l1] [v0] m Q ↔ AW d 240 30 [l0, l1] [v0] m Q := A_goto hB_X12_grow dX12_grow_22 (by decide)
theorem dX12_grow_25 : decode cX12_grow 25 = .ok (.aload_n 0, 1) := by decide +kernel
theorem tX12_grow_25 {d : Nat} {l1 : Option Value} {x : Nat} {m : jmM} {Q : Option Value → jmM → Prop} : AW d 240 25 [some (.ref x), l1] [] m Q ↔ AW d 240 26 [some (.ref x), l1] [.ref x] m Q := A_aload_n hB_X12_grow dX12_grow_25 rfl
theorem dX12_grow_26 : decode cX12_grow 26 = .ok (.iload_n 1, 1) := by decide +kernel
theorem tX12_grow_26 {d : Nat} {l0 : Option Value} {v0 : Value} {x : Int32} {m : jmM} {Q : Option Value → jmM → Prop} : AW d 240 26 [l0, some (.int x)] [v0] m Q ↔ AW d 240 27 [l0, some (.int x)] [.int x, v0] m Q := A_iload_n hB_X12_grow dX12_grow_26 rfl
theorem dX12_grow_27 : decode cX12_grow 27 = .ok (.invokevirtual 346, 3) := by decide +kernel
theorem tX12_grow_27 {d : Nat} {l0 l1 : Option Value} {y0 : Value} {a : Nat} {m : jmM} {Q : Option Value → jmM → Prop} : AW d 240 27 [l0, l1] [y0, .ref a] m Q ↔ (mS m a).1 = 12 ∧ CC d 239 [.ref a, y0] m (jK d 240 30 [l0, l1] [] Q) := A_callV hB_X12_grow dX12_grow_27 hO_X12_grow fS_12_346 ⟨Nat.le_of_ble_eq_true rfl, Nat.le_of_ble_eq_true rfl⟩ rfl rfl rfl
theorem dX12_grow_30 : decode cX12_grow 30 = .ok (.ireturn, 1) := by decide +kernel
theorem tX12_grow_30 {d : Nat} {l0 l1 : Option Value} {x : Int32} {m : jmM} {Q : Option Value → jmM → Prop} : AW d 240 30 [l0, l1] [.int x] m Q ↔ Q (some (.int x)) m := A_ireturn hB_X12_grow dX12_grow_30 hR_X12_grow
theorem hB_X12_state : jB 241 = cX12_state := rfl
theorem hO_X12_state : jO 241 = 12 := rfl
theorem hR_X12_state : jRt 241 = (some .int) := rfl
theorem nX12_state (d : Nat) (x0 : Nat) (m : jmM) (Q : Option Value → jmM → Prop) : CC (d + 1) 241 [.ref x0] m Q ↔ AW d 241 0 [some (.ref x0)] [] m Q := CC_body (Nat.le_of_ble_eq_true rfl)
theorem dX12_state_0 : decode cX12_state 0 = .ok (.aload_n 0, 1) := by decide +kernel
theorem tX12_state_0 {d : Nat} {x : Nat} {m : jmM} {Q : Option Value → jmM → Prop} : AW d 241 0 [some (.ref x)] [] m Q ↔ AW d 241 1 [some (.ref x)] [.ref x] m Q := A_aload_n hB_X12_state dX12_state_0 rfl
theorem dX12_state_1 : decode cX12_state 1 = .ok (.getfield 51, 3) := by decide +kernel
theorem tX12_state_1 {d : Nat} {l0 : Option Value} {a : Nat} {m : jmM} {Q : Option Value → jmM → Prop} : AW d 241 1 [l0] [.ref a] m Q ↔ (mS m a).1 = 12 ∧ AW d 241 4 [l0] [va_rf (mR m a 25)] m Q := A_getfield (f := fun m a => va_rf (mR m a 25)) hB_X12_state dX12_state_1 hO_X12_state fF_12_51 rfl
theorem dX12_state_4 : decode cX12_state 4 = .ok (.iconst 0, 1) := by decide +kernel
theorem tX12_state_4 {d : Nat} {l0 : Option Value} {v0 : Value} {m : jmM} {Q : Option Value → jmM → Prop} : AW d 241 4 [l0] [v0] m Q ↔ AW d 241 5 [l0] [.int 0, v0] m Q := A_iconst hB_X12_state dX12_state_4 (by decide)
theorem dX12_state_5 : decode cX12_state 5 = .ok (.iaload, 1) := by decide +kernel
theorem tX12_state_5 {d : Nat} {l0 : Option Value} {i : Int32} {a : Nat} {m : jmM} {Q : Option Value → jmM → Prop} : AW d 241 5 [l0] [.int i, .ref a] m Q ↔ (((mS m a).1 = 20 ∨ a = jScr) ∧ jIx i (mS m a).2) ∧ AW d 241 6 [l0] [.int (mI m a (jx i))] m Q := A_iaload hB_X12_state dX12_state_5
theorem dX12_state_6 : decode cX12_state 6 = .ok (.ireturn, 1) := by decide +kernel
theorem tX12_state_6 {d : Nat} {l0 : Option Value} {x : Int32} {m : jmM} {Q : Option Value → jmM → Prop} : AW d 241 6 [l0] [.int x] m Q ↔ Q (some (.int x)) m := A_ireturn hB_X12_state dX12_state_6 hR_X12_state
theorem hB_X12_count : jB 242 = cX12_count := rfl
theorem hO_X12_count : jO 242 = 12 := rfl
theorem hR_X12_count : jRt 242 = (some .int) := rfl
theorem nX12_count (d : Nat) (x0 : Nat) (x1 : Int32) (m : jmM) (Q : Option Value → jmM → Prop) : CC (d + 1) 242 [.ref x0, .int x1] m Q ↔ AW d 242 0 [some (.ref x0), some (.int x1)] [] m Q := CC_body (Nat.le_of_ble_eq_true rfl)
theorem dX12_count_0 : decode cX12_count 0 = .ok (.iload_n 1, 1) := by decide +kernel
theorem tX12_count_0 {d : Nat} {l0 : Option Value} {x : Int32} {m : jmM} {Q : Option Value → jmM → Prop} : AW d 242 0 [l0, some (.int x)] [] m Q ↔ AW d 242 1 [l0, some (.int x)] [.int x] m Q := A_iload_n hB_X12_count dX12_count_0 rfl
theorem dX12_count_1 : decode cX12_count 1 = .ok (.tableswitch 244 0 12 #[67, 88, 109, 130, 151, 172, 193, 214, 219, 224, 229, 234, 239], 67) := by decide +kernel
theorem tX12_count_1 {d : Nat} {l0 l1 : Option Value} {x : Int32} {m : jmM} {Q : Option Value → jmM → Prop} : AW d 242 1 [l0, l1] [.int x] m Q ↔ if x = 0 then AW d 242 68 [l0, l1] [] m Q else if x = 1 then AW d 242 89 [l0, l1] [] m Q else if x = 2 then AW d 242 110 [l0, l1] [] m Q else if x = 3 then AW d 242 131 [l0, l1] [] m Q else if x = 4 then AW d 242 152 [l0, l1] [] m Q else if x = 5 then AW d 242 173 [l0, l1] [] m Q else if x = 6 then AW d 242 194 [l0, l1] [] m Q else if x = 7 then AW d 242 215 [l0, l1] [] m Q else if x = 8 then AW d 242 220 [l0, l1] [] m Q else if x = 9 then AW d 242 225 [l0, l1] [] m Q else if x = 10 then AW d 242 230 [l0, l1] [] m Q else if x = 11 then AW d 242 235 [l0, l1] [] m Q else if x = 12 then AW d 242 240 [l0, l1] [] m Q else AW d 242 245 [l0, l1] [] m Q := by
  by_cases h0 : x = 0
  · subst h0; rw [if_pos rfl]; exact A_switch hB_X12_count dX12_count_1 (by decide) (by decide)
  rw [if_neg h0]
  have e0 := i32_ne (n := 0) (by decide) h0
  by_cases h1 : x = 1
  · subst h1; rw [if_pos rfl]; exact A_switch hB_X12_count dX12_count_1 (by decide) (by decide)
  rw [if_neg h1]
  have e1 := i32_ne (n := 1) (by decide) h1
  by_cases h2 : x = 2
  · subst h2; rw [if_pos rfl]; exact A_switch hB_X12_count dX12_count_1 (by decide) (by decide)
  rw [if_neg h2]
  have e2 := i32_ne (n := 2) (by decide) h2
  by_cases h3 : x = 3
  · subst h3; rw [if_pos rfl]; exact A_switch hB_X12_count dX12_count_1 (by decide) (by decide)
  rw [if_neg h3]
  have e3 := i32_ne (n := 3) (by decide) h3
  by_cases h4 : x = 4
  · subst h4; rw [if_pos rfl]; exact A_switch hB_X12_count dX12_count_1 (by decide) (by decide)
  rw [if_neg h4]
  have e4 := i32_ne (n := 4) (by decide) h4
  by_cases h5 : x = 5
  · subst h5; rw [if_pos rfl]; exact A_switch hB_X12_count dX12_count_1 (by decide) (by decide)
  rw [if_neg h5]
  have e5 := i32_ne (n := 5) (by decide) h5
  by_cases h6 : x = 6
  · subst h6; rw [if_pos rfl]; exact A_switch hB_X12_count dX12_count_1 (by decide) (by decide)
  rw [if_neg h6]
  have e6 := i32_ne (n := 6) (by decide) h6
  by_cases h7 : x = 7
  · subst h7; rw [if_pos rfl]; exact A_switch hB_X12_count dX12_count_1 (by decide) (by decide)
  rw [if_neg h7]
  have e7 := i32_ne (n := 7) (by decide) h7
  by_cases h8 : x = 8
  · subst h8; rw [if_pos rfl]; exact A_switch hB_X12_count dX12_count_1 (by decide) (by decide)
  rw [if_neg h8]
  have e8 := i32_ne (n := 8) (by decide) h8
  by_cases h9 : x = 9
  · subst h9; rw [if_pos rfl]; exact A_switch hB_X12_count dX12_count_1 (by decide) (by decide)
  rw [if_neg h9]
  have e9 := i32_ne (n := 9) (by decide) h9
  by_cases h10 : x = 10
  · subst h10; rw [if_pos rfl]; exact A_switch hB_X12_count dX12_count_1 (by decide) (by decide)
  rw [if_neg h10]
  have e10 := i32_ne (n := 10) (by decide) h10
  by_cases h11 : x = 11
  · subst h11; rw [if_pos rfl]; exact A_switch hB_X12_count dX12_count_1 (by decide) (by decide)
  rw [if_neg h11]
  have e11 := i32_ne (n := 11) (by decide) h11
  by_cases h12 : x = 12
  · subst h12; rw [if_pos rfl]; exact A_switch hB_X12_count dX12_count_1 (by decide) (by decide)
  rw [if_neg h12]
  have e12 := i32_ne (n := 12) (by decide) h12
  exact A_switch hB_X12_count dX12_count_1 (t := 245) (by decide) (by unfold jsw; rw [if_pos (by omega)]; rfl)
theorem dX12_count_68 : decode cX12_count 68 = .ok (.aload_n 0, 1) := by decide +kernel
theorem tX12_count_68 {d : Nat} {l1 : Option Value} {x : Nat} {m : jmM} {Q : Option Value → jmM → Prop} : AW d 242 68 [some (.ref x), l1] [] m Q ↔ AW d 242 69 [some (.ref x), l1] [.ref x] m Q := A_aload_n hB_X12_count dX12_count_68 rfl
theorem dX12_count_69 : decode cX12_count 69 = .ok (.getfield 51, 3) := by decide +kernel
theorem tX12_count_69 {d : Nat} {l0 l1 : Option Value} {a : Nat} {m : jmM} {Q : Option Value → jmM → Prop} : AW d 242 69 [l0, l1] [.ref a] m Q ↔ (mS m a).1 = 12 ∧ AW d 242 72 [l0, l1] [va_rf (mR m a 25)] m Q := A_getfield (f := fun m a => va_rf (mR m a 25)) hB_X12_count dX12_count_69 hO_X12_count fF_12_51 rfl
theorem dX12_count_72 : decode cX12_count 72 = .ok (.iconst 0, 1) := by decide +kernel
theorem tX12_count_72 {d : Nat} {l0 l1 : Option Value} {v0 : Value} {m : jmM} {Q : Option Value → jmM → Prop} : AW d 242 72 [l0, l1] [v0] m Q ↔ AW d 242 73 [l0, l1] [.int 0, v0] m Q := A_iconst hB_X12_count dX12_count_72 (by decide)
theorem dX12_count_73 : decode cX12_count 73 = .ok (.iaload, 1) := by decide +kernel
theorem tX12_count_73 {d : Nat} {l0 l1 : Option Value} {i : Int32} {a : Nat} {m : jmM} {Q : Option Value → jmM → Prop} : AW d 242 73 [l0, l1] [.int i, .ref a] m Q ↔ (((mS m a).1 = 20 ∨ a = jScr) ∧ jIx i (mS m a).2) ∧ AW d 242 74 [l0, l1] [.int (mI m a (jx i))] m Q := A_iaload hB_X12_count dX12_count_73
theorem dX12_count_74 : decode cX12_count 74 = .ok (.ifCond .ne 7, 3) := by decide +kernel
theorem tX12_count_74 {d : Nat} {l0 l1 : Option Value} {x : Int32} {m : jmM} {Q : Option Value → jmM → Prop} : AW d 242 74 [l0, l1] [.int x] m Q ↔ if x = 0 then AW d 242 77 [l0, l1] [] m Q else AW d 242 81 [l0, l1] [] m Q := A_if_ne hB_X12_count dX12_count_74 (by decide)
theorem dX12_count_77 : decode cX12_count 77 = .ok (.iconst 0, 1) := by decide +kernel
theorem tX12_count_77 {d : Nat} {l0 l1 : Option Value} {m : jmM} {Q : Option Value → jmM → Prop} : AW d 242 77 [l0, l1] [] m Q ↔ AW d 242 78 [l0, l1] [.int 0] m Q := A_iconst hB_X12_count dX12_count_77 (by decide)
theorem dX12_count_78 : decode cX12_count 78 = .ok (.goto 10, 3) := by decide +kernel
theorem tX12_count_78 {d : Nat} {l0 l1 : Option Value} {v0 : Value} {m : jmM} {Q : Option Value → jmM → Prop} : AW d 242 78 [l0, l1] [v0] m Q ↔ AW d 242 88 [l0, l1] [v0] m Q := A_goto hB_X12_count dX12_count_78 (by decide)
theorem dX12_count_81 : decode cX12_count 81 = .ok (.aload_n 0, 1) := by decide +kernel
theorem tX12_count_81 {d : Nat} {l1 : Option Value} {x : Nat} {m : jmM} {Q : Option Value → jmM → Prop} : AW d 242 81 [some (.ref x), l1] [] m Q ↔ AW d 242 82 [some (.ref x), l1] [.ref x] m Q := A_aload_n hB_X12_count dX12_count_81 rfl
theorem dX12_count_82 : decode cX12_count 82 = .ok (.getfield 51, 3) := by decide +kernel
theorem tX12_count_82 {d : Nat} {l0 l1 : Option Value} {a : Nat} {m : jmM} {Q : Option Value → jmM → Prop} : AW d 242 82 [l0, l1] [.ref a] m Q ↔ (mS m a).1 = 12 ∧ AW d 242 85 [l0, l1] [va_rf (mR m a 25)] m Q := A_getfield (f := fun m a => va_rf (mR m a 25)) hB_X12_count dX12_count_82 hO_X12_count fF_12_51 rfl
theorem dX12_count_85 : decode cX12_count 85 = .ok (.bipush 15, 2) := by decide +kernel
theorem tX12_count_85 {d : Nat} {l0 l1 : Option Value} {v0 : Value} {m : jmM} {Q : Option Value → jmM → Prop} : AW d 242 85 [l0, l1] [v0] m Q ↔ AW d 242 87 [l0, l1] [.int 15, v0] m Q := A_bipush hB_X12_count dX12_count_85 rfl
theorem dX12_count_87 : decode cX12_count 87 = .ok (.iaload, 1) := by decide +kernel
theorem tX12_count_87 {d : Nat} {l0 l1 : Option Value} {i : Int32} {a : Nat} {m : jmM} {Q : Option Value → jmM → Prop} : AW d 242 87 [l0, l1] [.int i, .ref a] m Q ↔ (((mS m a).1 = 20 ∨ a = jScr) ∧ jIx i (mS m a).2) ∧ AW d 242 88 [l0, l1] [.int (mI m a (jx i))] m Q := A_iaload hB_X12_count dX12_count_87
theorem dX12_count_88 : decode cX12_count 88 = .ok (.ireturn, 1) := by decide +kernel
theorem tX12_count_88 {d : Nat} {l0 l1 : Option Value} {x : Int32} {m : jmM} {Q : Option Value → jmM → Prop} : AW d 242 88 [l0, l1] [.int x] m Q ↔ Q (some (.int x)) m := A_ireturn hB_X12_count dX12_count_88 hR_X12_count
theorem dX12_count_89 : decode cX12_count 89 = .ok (.aload_n 0, 1) := by decide +kernel
theorem tX12_count_89 {d : Nat} {l1 : Option Value} {x : Nat} {m : jmM} {Q : Option Value → jmM → Prop} : AW d 242 89 [some (.ref x), l1] [] m Q ↔ AW d 242 90 [some (.ref x), l1] [.ref x] m Q := A_aload_n hB_X12_count dX12_count_89 rfl
theorem dX12_count_90 : decode cX12_count 90 = .ok (.getfield 51, 3) := by decide +kernel
theorem tX12_count_90 {d : Nat} {l0 l1 : Option Value} {a : Nat} {m : jmM} {Q : Option Value → jmM → Prop} : AW d 242 90 [l0, l1] [.ref a] m Q ↔ (mS m a).1 = 12 ∧ AW d 242 93 [l0, l1] [va_rf (mR m a 25)] m Q := A_getfield (f := fun m a => va_rf (mR m a 25)) hB_X12_count dX12_count_90 hO_X12_count fF_12_51 rfl
theorem dX12_count_93 : decode cX12_count 93 = .ok (.iconst 0, 1) := by decide +kernel
theorem tX12_count_93 {d : Nat} {l0 l1 : Option Value} {v0 : Value} {m : jmM} {Q : Option Value → jmM → Prop} : AW d 242 93 [l0, l1] [v0] m Q ↔ AW d 242 94 [l0, l1] [.int 0, v0] m Q := A_iconst hB_X12_count dX12_count_93 (by decide)
theorem dX12_count_94 : decode cX12_count 94 = .ok (.iaload, 1) := by decide +kernel
theorem tX12_count_94 {d : Nat} {l0 l1 : Option Value} {i : Int32} {a : Nat} {m : jmM} {Q : Option Value → jmM → Prop} : AW d 242 94 [l0, l1] [.int i, .ref a] m Q ↔ (((mS m a).1 = 20 ∨ a = jScr) ∧ jIx i (mS m a).2) ∧ AW d 242 95 [l0, l1] [.int (mI m a (jx i))] m Q := A_iaload hB_X12_count dX12_count_94
theorem dX12_count_95 : decode cX12_count 95 = .ok (.ifCond .ne 7, 3) := by decide +kernel
theorem tX12_count_95 {d : Nat} {l0 l1 : Option Value} {x : Int32} {m : jmM} {Q : Option Value → jmM → Prop} : AW d 242 95 [l0, l1] [.int x] m Q ↔ if x = 0 then AW d 242 98 [l0, l1] [] m Q else AW d 242 102 [l0, l1] [] m Q := A_if_ne hB_X12_count dX12_count_95 (by decide)
theorem dX12_count_98 : decode cX12_count 98 = .ok (.iconst 0, 1) := by decide +kernel
theorem tX12_count_98 {d : Nat} {l0 l1 : Option Value} {m : jmM} {Q : Option Value → jmM → Prop} : AW d 242 98 [l0, l1] [] m Q ↔ AW d 242 99 [l0, l1] [.int 0] m Q := A_iconst hB_X12_count dX12_count_98 (by decide)
theorem dX12_count_99 : decode cX12_count 99 = .ok (.goto 10, 3) := by decide +kernel
theorem tX12_count_99 {d : Nat} {l0 l1 : Option Value} {v0 : Value} {m : jmM} {Q : Option Value → jmM → Prop} : AW d 242 99 [l0, l1] [v0] m Q ↔ AW d 242 109 [l0, l1] [v0] m Q := A_goto hB_X12_count dX12_count_99 (by decide)
theorem dX12_count_102 : decode cX12_count 102 = .ok (.aload_n 0, 1) := by decide +kernel
theorem tX12_count_102 {d : Nat} {l1 : Option Value} {x : Nat} {m : jmM} {Q : Option Value → jmM → Prop} : AW d 242 102 [some (.ref x), l1] [] m Q ↔ AW d 242 103 [some (.ref x), l1] [.ref x] m Q := A_aload_n hB_X12_count dX12_count_102 rfl
theorem dX12_count_103 : decode cX12_count 103 = .ok (.getfield 51, 3) := by decide +kernel
theorem tX12_count_103 {d : Nat} {l0 l1 : Option Value} {a : Nat} {m : jmM} {Q : Option Value → jmM → Prop} : AW d 242 103 [l0, l1] [.ref a] m Q ↔ (mS m a).1 = 12 ∧ AW d 242 106 [l0, l1] [va_rf (mR m a 25)] m Q := A_getfield (f := fun m a => va_rf (mR m a 25)) hB_X12_count dX12_count_103 hO_X12_count fF_12_51 rfl
theorem dX12_count_106 : decode cX12_count 106 = .ok (.bipush 9, 2) := by decide +kernel
theorem tX12_count_106 {d : Nat} {l0 l1 : Option Value} {v0 : Value} {m : jmM} {Q : Option Value → jmM → Prop} : AW d 242 106 [l0, l1] [v0] m Q ↔ AW d 242 108 [l0, l1] [.int 9, v0] m Q := A_bipush hB_X12_count dX12_count_106 rfl
theorem dX12_count_108 : decode cX12_count 108 = .ok (.iaload, 1) := by decide +kernel
theorem tX12_count_108 {d : Nat} {l0 l1 : Option Value} {i : Int32} {a : Nat} {m : jmM} {Q : Option Value → jmM → Prop} : AW d 242 108 [l0, l1] [.int i, .ref a] m Q ↔ (((mS m a).1 = 20 ∨ a = jScr) ∧ jIx i (mS m a).2) ∧ AW d 242 109 [l0, l1] [.int (mI m a (jx i))] m Q := A_iaload hB_X12_count dX12_count_108
theorem dX12_count_109 : decode cX12_count 109 = .ok (.ireturn, 1) := by decide +kernel
theorem tX12_count_109 {d : Nat} {l0 l1 : Option Value} {x : Int32} {m : jmM} {Q : Option Value → jmM → Prop} : AW d 242 109 [l0, l1] [.int x] m Q ↔ Q (some (.int x)) m := A_ireturn hB_X12_count dX12_count_109 hR_X12_count
theorem dX12_count_110 : decode cX12_count 110 = .ok (.aload_n 0, 1) := by decide +kernel
theorem tX12_count_110 {d : Nat} {l1 : Option Value} {x : Nat} {m : jmM} {Q : Option Value → jmM → Prop} : AW d 242 110 [some (.ref x), l1] [] m Q ↔ AW d 242 111 [some (.ref x), l1] [.ref x] m Q := A_aload_n hB_X12_count dX12_count_110 rfl
theorem dX12_count_111 : decode cX12_count 111 = .ok (.getfield 51, 3) := by decide +kernel
theorem tX12_count_111 {d : Nat} {l0 l1 : Option Value} {a : Nat} {m : jmM} {Q : Option Value → jmM → Prop} : AW d 242 111 [l0, l1] [.ref a] m Q ↔ (mS m a).1 = 12 ∧ AW d 242 114 [l0, l1] [va_rf (mR m a 25)] m Q := A_getfield (f := fun m a => va_rf (mR m a 25)) hB_X12_count dX12_count_111 hO_X12_count fF_12_51 rfl
theorem dX12_count_114 : decode cX12_count 114 = .ok (.iconst 0, 1) := by decide +kernel
theorem tX12_count_114 {d : Nat} {l0 l1 : Option Value} {v0 : Value} {m : jmM} {Q : Option Value → jmM → Prop} : AW d 242 114 [l0, l1] [v0] m Q ↔ AW d 242 115 [l0, l1] [.int 0, v0] m Q := A_iconst hB_X12_count dX12_count_114 (by decide)
theorem dX12_count_115 : decode cX12_count 115 = .ok (.iaload, 1) := by decide +kernel
theorem tX12_count_115 {d : Nat} {l0 l1 : Option Value} {i : Int32} {a : Nat} {m : jmM} {Q : Option Value → jmM → Prop} : AW d 242 115 [l0, l1] [.int i, .ref a] m Q ↔ (((mS m a).1 = 20 ∨ a = jScr) ∧ jIx i (mS m a).2) ∧ AW d 242 116 [l0, l1] [.int (mI m a (jx i))] m Q := A_iaload hB_X12_count dX12_count_115
theorem dX12_count_116 : decode cX12_count 116 = .ok (.ifCond .ne 7, 3) := by decide +kernel
theorem tX12_count_116 {d : Nat} {l0 l1 : Option Value} {x : Int32} {m : jmM} {Q : Option Value → jmM → Prop} : AW d 242 116 [l0, l1] [.int x] m Q ↔ if x = 0 then AW d 242 119 [l0, l1] [] m Q else AW d 242 123 [l0, l1] [] m Q := A_if_ne hB_X12_count dX12_count_116 (by decide)
theorem dX12_count_119 : decode cX12_count 119 = .ok (.iconst 0, 1) := by decide +kernel
theorem tX12_count_119 {d : Nat} {l0 l1 : Option Value} {m : jmM} {Q : Option Value → jmM → Prop} : AW d 242 119 [l0, l1] [] m Q ↔ AW d 242 120 [l0, l1] [.int 0] m Q := A_iconst hB_X12_count dX12_count_119 (by decide)
theorem dX12_count_120 : decode cX12_count 120 = .ok (.goto 10, 3) := by decide +kernel
theorem tX12_count_120 {d : Nat} {l0 l1 : Option Value} {v0 : Value} {m : jmM} {Q : Option Value → jmM → Prop} : AW d 242 120 [l0, l1] [v0] m Q ↔ AW d 242 130 [l0, l1] [v0] m Q := A_goto hB_X12_count dX12_count_120 (by decide)
theorem dX12_count_123 : decode cX12_count 123 = .ok (.aload_n 0, 1) := by decide +kernel
theorem tX12_count_123 {d : Nat} {l1 : Option Value} {x : Nat} {m : jmM} {Q : Option Value → jmM → Prop} : AW d 242 123 [some (.ref x), l1] [] m Q ↔ AW d 242 124 [some (.ref x), l1] [.ref x] m Q := A_aload_n hB_X12_count dX12_count_123 rfl
theorem dX12_count_124 : decode cX12_count 124 = .ok (.getfield 51, 3) := by decide +kernel
theorem tX12_count_124 {d : Nat} {l0 l1 : Option Value} {a : Nat} {m : jmM} {Q : Option Value → jmM → Prop} : AW d 242 124 [l0, l1] [.ref a] m Q ↔ (mS m a).1 = 12 ∧ AW d 242 127 [l0, l1] [va_rf (mR m a 25)] m Q := A_getfield (f := fun m a => va_rf (mR m a 25)) hB_X12_count dX12_count_124 hO_X12_count fF_12_51 rfl
theorem dX12_count_127 : decode cX12_count 127 = .ok (.bipush 10, 2) := by decide +kernel
theorem tX12_count_127 {d : Nat} {l0 l1 : Option Value} {v0 : Value} {m : jmM} {Q : Option Value → jmM → Prop} : AW d 242 127 [l0, l1] [v0] m Q ↔ AW d 242 129 [l0, l1] [.int 10, v0] m Q := A_bipush hB_X12_count dX12_count_127 rfl
theorem dX12_count_129 : decode cX12_count 129 = .ok (.iaload, 1) := by decide +kernel
theorem tX12_count_129 {d : Nat} {l0 l1 : Option Value} {i : Int32} {a : Nat} {m : jmM} {Q : Option Value → jmM → Prop} : AW d 242 129 [l0, l1] [.int i, .ref a] m Q ↔ (((mS m a).1 = 20 ∨ a = jScr) ∧ jIx i (mS m a).2) ∧ AW d 242 130 [l0, l1] [.int (mI m a (jx i))] m Q := A_iaload hB_X12_count dX12_count_129
theorem dX12_count_130 : decode cX12_count 130 = .ok (.ireturn, 1) := by decide +kernel
theorem tX12_count_130 {d : Nat} {l0 l1 : Option Value} {x : Int32} {m : jmM} {Q : Option Value → jmM → Prop} : AW d 242 130 [l0, l1] [.int x] m Q ↔ Q (some (.int x)) m := A_ireturn hB_X12_count dX12_count_130 hR_X12_count
theorem dX12_count_131 : decode cX12_count 131 = .ok (.aload_n 0, 1) := by decide +kernel
theorem tX12_count_131 {d : Nat} {l1 : Option Value} {x : Nat} {m : jmM} {Q : Option Value → jmM → Prop} : AW d 242 131 [some (.ref x), l1] [] m Q ↔ AW d 242 132 [some (.ref x), l1] [.ref x] m Q := A_aload_n hB_X12_count dX12_count_131 rfl
theorem dX12_count_132 : decode cX12_count 132 = .ok (.getfield 51, 3) := by decide +kernel
theorem tX12_count_132 {d : Nat} {l0 l1 : Option Value} {a : Nat} {m : jmM} {Q : Option Value → jmM → Prop} : AW d 242 132 [l0, l1] [.ref a] m Q ↔ (mS m a).1 = 12 ∧ AW d 242 135 [l0, l1] [va_rf (mR m a 25)] m Q := A_getfield (f := fun m a => va_rf (mR m a 25)) hB_X12_count dX12_count_132 hO_X12_count fF_12_51 rfl
theorem dX12_count_135 : decode cX12_count 135 = .ok (.iconst 0, 1) := by decide +kernel
theorem tX12_count_135 {d : Nat} {l0 l1 : Option Value} {v0 : Value} {m : jmM} {Q : Option Value → jmM → Prop} : AW d 242 135 [l0, l1] [v0] m Q ↔ AW d 242 136 [l0, l1] [.int 0, v0] m Q := A_iconst hB_X12_count dX12_count_135 (by decide)
theorem dX12_count_136 : decode cX12_count 136 = .ok (.iaload, 1) := by decide +kernel
theorem tX12_count_136 {d : Nat} {l0 l1 : Option Value} {i : Int32} {a : Nat} {m : jmM} {Q : Option Value → jmM → Prop} : AW d 242 136 [l0, l1] [.int i, .ref a] m Q ↔ (((mS m a).1 = 20 ∨ a = jScr) ∧ jIx i (mS m a).2) ∧ AW d 242 137 [l0, l1] [.int (mI m a (jx i))] m Q := A_iaload hB_X12_count dX12_count_136
theorem dX12_count_137 : decode cX12_count 137 = .ok (.ifCond .ne 7, 3) := by decide +kernel
theorem tX12_count_137 {d : Nat} {l0 l1 : Option Value} {x : Int32} {m : jmM} {Q : Option Value → jmM → Prop} : AW d 242 137 [l0, l1] [.int x] m Q ↔ if x = 0 then AW d 242 140 [l0, l1] [] m Q else AW d 242 144 [l0, l1] [] m Q := A_if_ne hB_X12_count dX12_count_137 (by decide)
theorem dX12_count_140 : decode cX12_count 140 = .ok (.iconst 0, 1) := by decide +kernel
theorem tX12_count_140 {d : Nat} {l0 l1 : Option Value} {m : jmM} {Q : Option Value → jmM → Prop} : AW d 242 140 [l0, l1] [] m Q ↔ AW d 242 141 [l0, l1] [.int 0] m Q := A_iconst hB_X12_count dX12_count_140 (by decide)
theorem dX12_count_141 : decode cX12_count 141 = .ok (.goto 10, 3) := by decide +kernel
theorem tX12_count_141 {d : Nat} {l0 l1 : Option Value} {v0 : Value} {m : jmM} {Q : Option Value → jmM → Prop} : AW d 242 141 [l0, l1] [v0] m Q ↔ AW d 242 151 [l0, l1] [v0] m Q := A_goto hB_X12_count dX12_count_141 (by decide)
theorem dX12_count_144 : decode cX12_count 144 = .ok (.aload_n 0, 1) := by decide +kernel
theorem tX12_count_144 {d : Nat} {l1 : Option Value} {x : Nat} {m : jmM} {Q : Option Value → jmM → Prop} : AW d 242 144 [some (.ref x), l1] [] m Q ↔ AW d 242 145 [some (.ref x), l1] [.ref x] m Q := A_aload_n hB_X12_count dX12_count_144 rfl
theorem dX12_count_145 : decode cX12_count 145 = .ok (.getfield 51, 3) := by decide +kernel
theorem tX12_count_145 {d : Nat} {l0 l1 : Option Value} {a : Nat} {m : jmM} {Q : Option Value → jmM → Prop} : AW d 242 145 [l0, l1] [.ref a] m Q ↔ (mS m a).1 = 12 ∧ AW d 242 148 [l0, l1] [va_rf (mR m a 25)] m Q := A_getfield (f := fun m a => va_rf (mR m a 25)) hB_X12_count dX12_count_145 hO_X12_count fF_12_51 rfl
theorem dX12_count_148 : decode cX12_count 148 = .ok (.bipush 11, 2) := by decide +kernel
theorem tX12_count_148 {d : Nat} {l0 l1 : Option Value} {v0 : Value} {m : jmM} {Q : Option Value → jmM → Prop} : AW d 242 148 [l0, l1] [v0] m Q ↔ AW d 242 150 [l0, l1] [.int 11, v0] m Q := A_bipush hB_X12_count dX12_count_148 rfl
theorem dX12_count_150 : decode cX12_count 150 = .ok (.iaload, 1) := by decide +kernel
theorem tX12_count_150 {d : Nat} {l0 l1 : Option Value} {i : Int32} {a : Nat} {m : jmM} {Q : Option Value → jmM → Prop} : AW d 242 150 [l0, l1] [.int i, .ref a] m Q ↔ (((mS m a).1 = 20 ∨ a = jScr) ∧ jIx i (mS m a).2) ∧ AW d 242 151 [l0, l1] [.int (mI m a (jx i))] m Q := A_iaload hB_X12_count dX12_count_150
theorem dX12_count_151 : decode cX12_count 151 = .ok (.ireturn, 1) := by decide +kernel
theorem tX12_count_151 {d : Nat} {l0 l1 : Option Value} {x : Int32} {m : jmM} {Q : Option Value → jmM → Prop} : AW d 242 151 [l0, l1] [.int x] m Q ↔ Q (some (.int x)) m := A_ireturn hB_X12_count dX12_count_151 hR_X12_count
theorem dX12_count_152 : decode cX12_count 152 = .ok (.aload_n 0, 1) := by decide +kernel
theorem tX12_count_152 {d : Nat} {l1 : Option Value} {x : Nat} {m : jmM} {Q : Option Value → jmM → Prop} : AW d 242 152 [some (.ref x), l1] [] m Q ↔ AW d 242 153 [some (.ref x), l1] [.ref x] m Q := A_aload_n hB_X12_count dX12_count_152 rfl
theorem dX12_count_153 : decode cX12_count 153 = .ok (.getfield 51, 3) := by decide +kernel
theorem tX12_count_153 {d : Nat} {l0 l1 : Option Value} {a : Nat} {m : jmM} {Q : Option Value → jmM → Prop} : AW d 242 153 [l0, l1] [.ref a] m Q ↔ (mS m a).1 = 12 ∧ AW d 242 156 [l0, l1] [va_rf (mR m a 25)] m Q := A_getfield (f := fun m a => va_rf (mR m a 25)) hB_X12_count dX12_count_153 hO_X12_count fF_12_51 rfl
theorem dX12_count_156 : decode cX12_count 156 = .ok (.iconst 0, 1) := by decide +kernel
theorem tX12_count_156 {d : Nat} {l0 l1 : Option Value} {v0 : Value} {m : jmM} {Q : Option Value → jmM → Prop} : AW d 242 156 [l0, l1] [v0] m Q ↔ AW d 242 157 [l0, l1] [.int 0, v0] m Q := A_iconst hB_X12_count dX12_count_156 (by decide)
theorem dX12_count_157 : decode cX12_count 157 = .ok (.iaload, 1) := by decide +kernel
theorem tX12_count_157 {d : Nat} {l0 l1 : Option Value} {i : Int32} {a : Nat} {m : jmM} {Q : Option Value → jmM → Prop} : AW d 242 157 [l0, l1] [.int i, .ref a] m Q ↔ (((mS m a).1 = 20 ∨ a = jScr) ∧ jIx i (mS m a).2) ∧ AW d 242 158 [l0, l1] [.int (mI m a (jx i))] m Q := A_iaload hB_X12_count dX12_count_157
theorem dX12_count_158 : decode cX12_count 158 = .ok (.ifCond .ne 7, 3) := by decide +kernel
theorem tX12_count_158 {d : Nat} {l0 l1 : Option Value} {x : Int32} {m : jmM} {Q : Option Value → jmM → Prop} : AW d 242 158 [l0, l1] [.int x] m Q ↔ if x = 0 then AW d 242 161 [l0, l1] [] m Q else AW d 242 165 [l0, l1] [] m Q := A_if_ne hB_X12_count dX12_count_158 (by decide)
theorem dX12_count_161 : decode cX12_count 161 = .ok (.iconst 0, 1) := by decide +kernel
theorem tX12_count_161 {d : Nat} {l0 l1 : Option Value} {m : jmM} {Q : Option Value → jmM → Prop} : AW d 242 161 [l0, l1] [] m Q ↔ AW d 242 162 [l0, l1] [.int 0] m Q := A_iconst hB_X12_count dX12_count_161 (by decide)
theorem dX12_count_162 : decode cX12_count 162 = .ok (.goto 10, 3) := by decide +kernel
theorem tX12_count_162 {d : Nat} {l0 l1 : Option Value} {v0 : Value} {m : jmM} {Q : Option Value → jmM → Prop} : AW d 242 162 [l0, l1] [v0] m Q ↔ AW d 242 172 [l0, l1] [v0] m Q := A_goto hB_X12_count dX12_count_162 (by decide)
theorem dX12_count_165 : decode cX12_count 165 = .ok (.aload_n 0, 1) := by decide +kernel
theorem tX12_count_165 {d : Nat} {l1 : Option Value} {x : Nat} {m : jmM} {Q : Option Value → jmM → Prop} : AW d 242 165 [some (.ref x), l1] [] m Q ↔ AW d 242 166 [some (.ref x), l1] [.ref x] m Q := A_aload_n hB_X12_count dX12_count_165 rfl
theorem dX12_count_166 : decode cX12_count 166 = .ok (.getfield 51, 3) := by decide +kernel
theorem tX12_count_166 {d : Nat} {l0 l1 : Option Value} {a : Nat} {m : jmM} {Q : Option Value → jmM → Prop} : AW d 242 166 [l0, l1] [.ref a] m Q ↔ (mS m a).1 = 12 ∧ AW d 242 169 [l0, l1] [va_rf (mR m a 25)] m Q := A_getfield (f := fun m a => va_rf (mR m a 25)) hB_X12_count dX12_count_166 hO_X12_count fF_12_51 rfl
theorem dX12_count_169 : decode cX12_count 169 = .ok (.bipush 12, 2) := by decide +kernel
theorem tX12_count_169 {d : Nat} {l0 l1 : Option Value} {v0 : Value} {m : jmM} {Q : Option Value → jmM → Prop} : AW d 242 169 [l0, l1] [v0] m Q ↔ AW d 242 171 [l0, l1] [.int 12, v0] m Q := A_bipush hB_X12_count dX12_count_169 rfl
theorem dX12_count_171 : decode cX12_count 171 = .ok (.iaload, 1) := by decide +kernel
theorem tX12_count_171 {d : Nat} {l0 l1 : Option Value} {i : Int32} {a : Nat} {m : jmM} {Q : Option Value → jmM → Prop} : AW d 242 171 [l0, l1] [.int i, .ref a] m Q ↔ (((mS m a).1 = 20 ∨ a = jScr) ∧ jIx i (mS m a).2) ∧ AW d 242 172 [l0, l1] [.int (mI m a (jx i))] m Q := A_iaload hB_X12_count dX12_count_171
theorem dX12_count_172 : decode cX12_count 172 = .ok (.ireturn, 1) := by decide +kernel
theorem tX12_count_172 {d : Nat} {l0 l1 : Option Value} {x : Int32} {m : jmM} {Q : Option Value → jmM → Prop} : AW d 242 172 [l0, l1] [.int x] m Q ↔ Q (some (.int x)) m := A_ireturn hB_X12_count dX12_count_172 hR_X12_count
theorem dX12_count_173 : decode cX12_count 173 = .ok (.aload_n 0, 1) := by decide +kernel
theorem tX12_count_173 {d : Nat} {l1 : Option Value} {x : Nat} {m : jmM} {Q : Option Value → jmM → Prop} : AW d 242 173 [some (.ref x), l1] [] m Q ↔ AW d 242 174 [some (.ref x), l1] [.ref x] m Q := A_aload_n hB_X12_count dX12_count_173 rfl
theorem dX12_count_174 : decode cX12_count 174 = .ok (.getfield 51, 3) := by decide +kernel
theorem tX12_count_174 {d : Nat} {l0 l1 : Option Value} {a : Nat} {m : jmM} {Q : Option Value → jmM → Prop} : AW d 242 174 [l0, l1] [.ref a] m Q ↔ (mS m a).1 = 12 ∧ AW d 242 177 [l0, l1] [va_rf (mR m a 25)] m Q := A_getfield (f := fun m a => va_rf (mR m a 25)) hB_X12_count dX12_count_174 hO_X12_count fF_12_51 rfl
theorem dX12_count_177 : decode cX12_count 177 = .ok (.iconst 0, 1) := by decide +kernel
theorem tX12_count_177 {d : Nat} {l0 l1 : Option Value} {v0 : Value} {m : jmM} {Q : Option Value → jmM → Prop} : AW d 242 177 [l0, l1] [v0] m Q ↔ AW d 242 178 [l0, l1] [.int 0, v0] m Q := A_iconst hB_X12_count dX12_count_177 (by decide)
theorem dX12_count_178 : decode cX12_count 178 = .ok (.iaload, 1) := by decide +kernel
theorem tX12_count_178 {d : Nat} {l0 l1 : Option Value} {i : Int32} {a : Nat} {m : jmM} {Q : Option Value → jmM → Prop} : AW d 242 178 [l0, l1] [.int i, .ref a] m Q ↔ (((mS m a).1 = 20 ∨ a = jScr) ∧ jIx i (mS m a).2) ∧ AW d 242 179 [l0, l1] [.int (mI m a (jx i))] m Q := A_iaload hB_X12_count dX12_count_178
theorem dX12_count_179 : decode cX12_count 179 = .ok (.ifCond .ne 7, 3) := by decide +kernel
theorem tX12_count_179 {d : Nat} {l0 l1 : Option Value} {x : Int32} {m : jmM} {Q : Option Value → jmM → Prop} : AW d 242 179 [l0, l1] [.int x] m Q ↔ if x = 0 then AW d 242 182 [l0, l1] [] m Q else AW d 242 186 [l0, l1] [] m Q := A_if_ne hB_X12_count dX12_count_179 (by decide)
theorem dX12_count_182 : decode cX12_count 182 = .ok (.iconst 0, 1) := by decide +kernel
theorem tX12_count_182 {d : Nat} {l0 l1 : Option Value} {m : jmM} {Q : Option Value → jmM → Prop} : AW d 242 182 [l0, l1] [] m Q ↔ AW d 242 183 [l0, l1] [.int 0] m Q := A_iconst hB_X12_count dX12_count_182 (by decide)
theorem dX12_count_183 : decode cX12_count 183 = .ok (.goto 10, 3) := by decide +kernel
theorem tX12_count_183 {d : Nat} {l0 l1 : Option Value} {v0 : Value} {m : jmM} {Q : Option Value → jmM → Prop} : AW d 242 183 [l0, l1] [v0] m Q ↔ AW d 242 193 [l0, l1] [v0] m Q := A_goto hB_X12_count dX12_count_183 (by decide)
theorem dX12_count_186 : decode cX12_count 186 = .ok (.aload_n 0, 1) := by decide +kernel
theorem tX12_count_186 {d : Nat} {l1 : Option Value} {x : Nat} {m : jmM} {Q : Option Value → jmM → Prop} : AW d 242 186 [some (.ref x), l1] [] m Q ↔ AW d 242 187 [some (.ref x), l1] [.ref x] m Q := A_aload_n hB_X12_count dX12_count_186 rfl
theorem dX12_count_187 : decode cX12_count 187 = .ok (.getfield 51, 3) := by decide +kernel
theorem tX12_count_187 {d : Nat} {l0 l1 : Option Value} {a : Nat} {m : jmM} {Q : Option Value → jmM → Prop} : AW d 242 187 [l0, l1] [.ref a] m Q ↔ (mS m a).1 = 12 ∧ AW d 242 190 [l0, l1] [va_rf (mR m a 25)] m Q := A_getfield (f := fun m a => va_rf (mR m a 25)) hB_X12_count dX12_count_187 hO_X12_count fF_12_51 rfl
theorem dX12_count_190 : decode cX12_count 190 = .ok (.bipush 13, 2) := by decide +kernel
theorem tX12_count_190 {d : Nat} {l0 l1 : Option Value} {v0 : Value} {m : jmM} {Q : Option Value → jmM → Prop} : AW d 242 190 [l0, l1] [v0] m Q ↔ AW d 242 192 [l0, l1] [.int 13, v0] m Q := A_bipush hB_X12_count dX12_count_190 rfl
theorem dX12_count_192 : decode cX12_count 192 = .ok (.iaload, 1) := by decide +kernel
theorem tX12_count_192 {d : Nat} {l0 l1 : Option Value} {i : Int32} {a : Nat} {m : jmM} {Q : Option Value → jmM → Prop} : AW d 242 192 [l0, l1] [.int i, .ref a] m Q ↔ (((mS m a).1 = 20 ∨ a = jScr) ∧ jIx i (mS m a).2) ∧ AW d 242 193 [l0, l1] [.int (mI m a (jx i))] m Q := A_iaload hB_X12_count dX12_count_192
theorem dX12_count_193 : decode cX12_count 193 = .ok (.ireturn, 1) := by decide +kernel
theorem tX12_count_193 {d : Nat} {l0 l1 : Option Value} {x : Int32} {m : jmM} {Q : Option Value → jmM → Prop} : AW d 242 193 [l0, l1] [.int x] m Q ↔ Q (some (.int x)) m := A_ireturn hB_X12_count dX12_count_193 hR_X12_count
theorem dX12_count_194 : decode cX12_count 194 = .ok (.aload_n 0, 1) := by decide +kernel
theorem tX12_count_194 {d : Nat} {l1 : Option Value} {x : Nat} {m : jmM} {Q : Option Value → jmM → Prop} : AW d 242 194 [some (.ref x), l1] [] m Q ↔ AW d 242 195 [some (.ref x), l1] [.ref x] m Q := A_aload_n hB_X12_count dX12_count_194 rfl
theorem dX12_count_195 : decode cX12_count 195 = .ok (.getfield 51, 3) := by decide +kernel
theorem tX12_count_195 {d : Nat} {l0 l1 : Option Value} {a : Nat} {m : jmM} {Q : Option Value → jmM → Prop} : AW d 242 195 [l0, l1] [.ref a] m Q ↔ (mS m a).1 = 12 ∧ AW d 242 198 [l0, l1] [va_rf (mR m a 25)] m Q := A_getfield (f := fun m a => va_rf (mR m a 25)) hB_X12_count dX12_count_195 hO_X12_count fF_12_51 rfl
theorem dX12_count_198 : decode cX12_count 198 = .ok (.iconst 0, 1) := by decide +kernel
theorem tX12_count_198 {d : Nat} {l0 l1 : Option Value} {v0 : Value} {m : jmM} {Q : Option Value → jmM → Prop} : AW d 242 198 [l0, l1] [v0] m Q ↔ AW d 242 199 [l0, l1] [.int 0, v0] m Q := A_iconst hB_X12_count dX12_count_198 (by decide)
theorem dX12_count_199 : decode cX12_count 199 = .ok (.iaload, 1) := by decide +kernel
theorem tX12_count_199 {d : Nat} {l0 l1 : Option Value} {i : Int32} {a : Nat} {m : jmM} {Q : Option Value → jmM → Prop} : AW d 242 199 [l0, l1] [.int i, .ref a] m Q ↔ (((mS m a).1 = 20 ∨ a = jScr) ∧ jIx i (mS m a).2) ∧ AW d 242 200 [l0, l1] [.int (mI m a (jx i))] m Q := A_iaload hB_X12_count dX12_count_199
theorem dX12_count_200 : decode cX12_count 200 = .ok (.ifCond .ne 7, 3) := by decide +kernel
theorem tX12_count_200 {d : Nat} {l0 l1 : Option Value} {x : Int32} {m : jmM} {Q : Option Value → jmM → Prop} : AW d 242 200 [l0, l1] [.int x] m Q ↔ if x = 0 then AW d 242 203 [l0, l1] [] m Q else AW d 242 207 [l0, l1] [] m Q := A_if_ne hB_X12_count dX12_count_200 (by decide)
theorem dX12_count_203 : decode cX12_count 203 = .ok (.iconst 0, 1) := by decide +kernel
theorem tX12_count_203 {d : Nat} {l0 l1 : Option Value} {m : jmM} {Q : Option Value → jmM → Prop} : AW d 242 203 [l0, l1] [] m Q ↔ AW d 242 204 [l0, l1] [.int 0] m Q := A_iconst hB_X12_count dX12_count_203 (by decide)
theorem dX12_count_204 : decode cX12_count 204 = .ok (.goto 10, 3) := by decide +kernel
theorem tX12_count_204 {d : Nat} {l0 l1 : Option Value} {v0 : Value} {m : jmM} {Q : Option Value → jmM → Prop} : AW d 242 204 [l0, l1] [v0] m Q ↔ AW d 242 214 [l0, l1] [v0] m Q := A_goto hB_X12_count dX12_count_204 (by decide)
theorem dX12_count_207 : decode cX12_count 207 = .ok (.aload_n 0, 1) := by decide +kernel
theorem tX12_count_207 {d : Nat} {l1 : Option Value} {x : Nat} {m : jmM} {Q : Option Value → jmM → Prop} : AW d 242 207 [some (.ref x), l1] [] m Q ↔ AW d 242 208 [some (.ref x), l1] [.ref x] m Q := A_aload_n hB_X12_count dX12_count_207 rfl
theorem dX12_count_208 : decode cX12_count 208 = .ok (.getfield 51, 3) := by decide +kernel
theorem tX12_count_208 {d : Nat} {l0 l1 : Option Value} {a : Nat} {m : jmM} {Q : Option Value → jmM → Prop} : AW d 242 208 [l0, l1] [.ref a] m Q ↔ (mS m a).1 = 12 ∧ AW d 242 211 [l0, l1] [va_rf (mR m a 25)] m Q := A_getfield (f := fun m a => va_rf (mR m a 25)) hB_X12_count dX12_count_208 hO_X12_count fF_12_51 rfl
theorem dX12_count_211 : decode cX12_count 211 = .ok (.bipush 14, 2) := by decide +kernel
theorem tX12_count_211 {d : Nat} {l0 l1 : Option Value} {v0 : Value} {m : jmM} {Q : Option Value → jmM → Prop} : AW d 242 211 [l0, l1] [v0] m Q ↔ AW d 242 213 [l0, l1] [.int 14, v0] m Q := A_bipush hB_X12_count dX12_count_211 rfl
theorem dX12_count_213 : decode cX12_count 213 = .ok (.iaload, 1) := by decide +kernel
theorem tX12_count_213 {d : Nat} {l0 l1 : Option Value} {i : Int32} {a : Nat} {m : jmM} {Q : Option Value → jmM → Prop} : AW d 242 213 [l0, l1] [.int i, .ref a] m Q ↔ (((mS m a).1 = 20 ∨ a = jScr) ∧ jIx i (mS m a).2) ∧ AW d 242 214 [l0, l1] [.int (mI m a (jx i))] m Q := A_iaload hB_X12_count dX12_count_213
theorem dX12_count_214 : decode cX12_count 214 = .ok (.ireturn, 1) := by decide +kernel
theorem tX12_count_214 {d : Nat} {l0 l1 : Option Value} {x : Int32} {m : jmM} {Q : Option Value → jmM → Prop} : AW d 242 214 [l0, l1] [.int x] m Q ↔ Q (some (.int x)) m := A_ireturn hB_X12_count dX12_count_214 hR_X12_count
theorem dX12_count_215 : decode cX12_count 215 = .ok (.aload_n 0, 1) := by decide +kernel
theorem tX12_count_215 {d : Nat} {l1 : Option Value} {x : Nat} {m : jmM} {Q : Option Value → jmM → Prop} : AW d 242 215 [some (.ref x), l1] [] m Q ↔ AW d 242 216 [some (.ref x), l1] [.ref x] m Q := A_aload_n hB_X12_count dX12_count_215 rfl
theorem dX12_count_216 : decode cX12_count 216 = .ok (.getfield 251, 3) := by decide +kernel
theorem tX12_count_216 {d : Nat} {l0 l1 : Option Value} {a : Nat} {m : jmM} {Q : Option Value → jmM → Prop} : AW d 242 216 [l0, l1] [.ref a] m Q ↔ (mS m a).1 = 12 ∧ AW d 242 219 [l0, l1] [.int (mI m a 9)] m Q := A_getfield (f := fun m a => .int (mI m a 9)) hB_X12_count dX12_count_216 hO_X12_count fF_12_251 rfl
theorem dX12_count_219 : decode cX12_count 219 = .ok (.ireturn, 1) := by decide +kernel
theorem tX12_count_219 {d : Nat} {l0 l1 : Option Value} {x : Int32} {m : jmM} {Q : Option Value → jmM → Prop} : AW d 242 219 [l0, l1] [.int x] m Q ↔ Q (some (.int x)) m := A_ireturn hB_X12_count dX12_count_219 hR_X12_count
theorem dX12_count_220 : decode cX12_count 220 = .ok (.aload_n 0, 1) := by decide +kernel
theorem tX12_count_220 {d : Nat} {l1 : Option Value} {x : Nat} {m : jmM} {Q : Option Value → jmM → Prop} : AW d 242 220 [some (.ref x), l1] [] m Q ↔ AW d 242 221 [some (.ref x), l1] [.ref x] m Q := A_aload_n hB_X12_count dX12_count_220 rfl
theorem dX12_count_221 : decode cX12_count 221 = .ok (.getfield 257, 3) := by decide +kernel
theorem tX12_count_221 {d : Nat} {l0 l1 : Option Value} {a : Nat} {m : jmM} {Q : Option Value → jmM → Prop} : AW d 242 221 [l0, l1] [.ref a] m Q ↔ (mS m a).1 = 12 ∧ AW d 242 224 [l0, l1] [.int (mI m a 10)] m Q := A_getfield (f := fun m a => .int (mI m a 10)) hB_X12_count dX12_count_221 hO_X12_count fF_12_257 rfl
theorem dX12_count_224 : decode cX12_count 224 = .ok (.ireturn, 1) := by decide +kernel
theorem tX12_count_224 {d : Nat} {l0 l1 : Option Value} {x : Int32} {m : jmM} {Q : Option Value → jmM → Prop} : AW d 242 224 [l0, l1] [.int x] m Q ↔ Q (some (.int x)) m := A_ireturn hB_X12_count dX12_count_224 hR_X12_count
theorem dX12_count_225 : decode cX12_count 225 = .ok (.aload_n 0, 1) := by decide +kernel
theorem tX12_count_225 {d : Nat} {l1 : Option Value} {x : Nat} {m : jmM} {Q : Option Value → jmM → Prop} : AW d 242 225 [some (.ref x), l1] [] m Q ↔ AW d 242 226 [some (.ref x), l1] [.ref x] m Q := A_aload_n hB_X12_count dX12_count_225 rfl
theorem dX12_count_226 : decode cX12_count 226 = .ok (.getfield 349, 3) := by decide +kernel
theorem tX12_count_226 {d : Nat} {l0 l1 : Option Value} {a : Nat} {m : jmM} {Q : Option Value → jmM → Prop} : AW d 242 226 [l0, l1] [.ref a] m Q ↔ (mS m a).1 = 12 ∧ AW d 242 229 [l0, l1] [.int (mI m a 32)] m Q := A_getfield (f := fun m a => .int (mI m a 32)) hB_X12_count dX12_count_226 hO_X12_count fF_12_349 rfl
theorem dX12_count_229 : decode cX12_count 229 = .ok (.ireturn, 1) := by decide +kernel
theorem tX12_count_229 {d : Nat} {l0 l1 : Option Value} {x : Int32} {m : jmM} {Q : Option Value → jmM → Prop} : AW d 242 229 [l0, l1] [.int x] m Q ↔ Q (some (.int x)) m := A_ireturn hB_X12_count dX12_count_229 hR_X12_count
theorem dX12_count_230 : decode cX12_count 230 = .ok (.aload_n 0, 1) := by decide +kernel
theorem tX12_count_230 {d : Nat} {l1 : Option Value} {x : Nat} {m : jmM} {Q : Option Value → jmM → Prop} : AW d 242 230 [some (.ref x), l1] [] m Q ↔ AW d 242 231 [some (.ref x), l1] [.ref x] m Q := A_aload_n hB_X12_count dX12_count_230 rfl
theorem dX12_count_231 : decode cX12_count 231 = .ok (.getfield 352, 3) := by decide +kernel
theorem tX12_count_231 {d : Nat} {l0 l1 : Option Value} {a : Nat} {m : jmM} {Q : Option Value → jmM → Prop} : AW d 242 231 [l0, l1] [.ref a] m Q ↔ (mS m a).1 = 12 ∧ AW d 242 234 [l0, l1] [.int (mI m a 47)] m Q := A_getfield (f := fun m a => .int (mI m a 47)) hB_X12_count dX12_count_231 hO_X12_count fF_12_352 rfl
theorem dX12_count_234 : decode cX12_count 234 = .ok (.ireturn, 1) := by decide +kernel
theorem tX12_count_234 {d : Nat} {l0 l1 : Option Value} {x : Int32} {m : jmM} {Q : Option Value → jmM → Prop} : AW d 242 234 [l0, l1] [.int x] m Q ↔ Q (some (.int x)) m := A_ireturn hB_X12_count dX12_count_234 hR_X12_count
theorem dX12_count_235 : decode cX12_count 235 = .ok (.aload_n 0, 1) := by decide +kernel
theorem tX12_count_235 {d : Nat} {l1 : Option Value} {x : Nat} {m : jmM} {Q : Option Value → jmM → Prop} : AW d 242 235 [some (.ref x), l1] [] m Q ↔ AW d 242 236 [some (.ref x), l1] [.ref x] m Q := A_aload_n hB_X12_count dX12_count_235 rfl
theorem dX12_count_236 : decode cX12_count 236 = .ok (.getfield 101, 3) := by decide +kernel
theorem tX12_count_236 {d : Nat} {l0 l1 : Option Value} {a : Nat} {m : jmM} {Q : Option Value → jmM → Prop} : AW d 242 236 [l0, l1] [.ref a] m Q ↔ (mS m a).1 = 12 ∧ AW d 242 239 [l0, l1] [.int (mI m a 1)] m Q := A_getfield (f := fun m a => .int (mI m a 1)) hB_X12_count dX12_count_236 hO_X12_count fF_12_101 rfl
theorem dX12_count_239 : decode cX12_count 239 = .ok (.ireturn, 1) := by decide +kernel
theorem tX12_count_239 {d : Nat} {l0 l1 : Option Value} {x : Int32} {m : jmM} {Q : Option Value → jmM → Prop} : AW d 242 239 [l0, l1] [.int x] m Q ↔ Q (some (.int x)) m := A_ireturn hB_X12_count dX12_count_239 hR_X12_count
theorem dX12_count_240 : decode cX12_count 240 = .ok (.aload_n 0, 1) := by decide +kernel
theorem tX12_count_240 {d : Nat} {l1 : Option Value} {x : Nat} {m : jmM} {Q : Option Value → jmM → Prop} : AW d 242 240 [some (.ref x), l1] [] m Q ↔ AW d 242 241 [some (.ref x), l1] [.ref x] m Q := A_aload_n hB_X12_count dX12_count_240 rfl
theorem dX12_count_241 : decode cX12_count 241 = .ok (.getfield 355, 3) := by decide +kernel
theorem tX12_count_241 {d : Nat} {l0 l1 : Option Value} {a : Nat} {m : jmM} {Q : Option Value → jmM → Prop} : AW d 242 241 [l0, l1] [.ref a] m Q ↔ (mS m a).1 = 12 ∧ AW d 242 244 [l0, l1] [.int (mI m a 37)] m Q := A_getfield (f := fun m a => .int (mI m a 37)) hB_X12_count dX12_count_241 hO_X12_count fF_12_355 rfl
theorem dX12_count_244 : decode cX12_count 244 = .ok (.ireturn, 1) := by decide +kernel
theorem tX12_count_244 {d : Nat} {l0 l1 : Option Value} {x : Int32} {m : jmM} {Q : Option Value → jmM → Prop} : AW d 242 244 [l0, l1] [.int x] m Q ↔ Q (some (.int x)) m := A_ireturn hB_X12_count dX12_count_244 hR_X12_count
theorem dX12_count_245 : decode cX12_count 245 = .ok (.iconst (-1), 1) := by decide +kernel
theorem tX12_count_245 {d : Nat} {l0 l1 : Option Value} {m : jmM} {Q : Option Value → jmM → Prop} : AW d 242 245 [l0, l1] [] m Q ↔ AW d 242 246 [l0, l1] [.int (-1)] m Q := A_iconst hB_X12_count dX12_count_245 (by decide)
theorem dX12_count_246 : decode cX12_count 246 = .ok (.ireturn, 1) := by decide +kernel
theorem tX12_count_246 {d : Nat} {l0 l1 : Option Value} {x : Int32} {m : jmM} {Q : Option Value → jmM → Prop} : AW d 242 246 [l0, l1] [.int x] m Q ↔ Q (some (.int x)) m := A_ireturn hB_X12_count dX12_count_246 hR_X12_count
theorem hB_X12_melts : jB 243 = cX12_melts := rfl
theorem hO_X12_melts : jO 243 = 12 := rfl
theorem hR_X12_melts : jRt 243 = none := rfl
theorem nX12_melts (d : Nat) (x0 : Nat) (x1 : Int32) (m : jmM) (Q : Option Value → jmM → Prop) : CC (d + 1) 243 [.ref x0, .int x1] m Q ↔ AW d 243 0 [some (.ref x0), some (.int x1), none, none] [] m Q := CC_body (Nat.le_of_ble_eq_true rfl)
theorem dX12_melts_0 : decode cX12_melts 0 = .ok (.iload_n 1, 1) := by decide +kernel
theorem tX12_melts_0 {d : Nat} {l0 l2 l3 : Option Value} {x : Int32} {m : jmM} {Q : Option Value → jmM → Prop} : AW d 243 0 [l0, some (.int x), l2, l3] [] m Q ↔ AW d 243 1 [l0, some (.int x), l2, l3] [.int x] m Q := A_iload_n hB_X12_melts dX12_melts_0 rfl
theorem dX12_melts_1 : decode cX12_melts 1 = .ok (.istore_n 2, 1) := by decide +kernel
theorem tX12_melts_1 {d : Nat} {l0 l1 l2 l3 : Option Value} {x : Int32} {m : jmM} {Q : Option Value → jmM → Prop} : AW d 243 1 [l0, l1, l2, l3] [.int x] m Q ↔ AW d 243 2 [l0, jc1 l1, some (.int x), l3] [] m Q := A_istore_n hB_X12_melts dX12_melts_1 (Nat.le_of_ble_eq_true rfl) rfl
theorem dX12_melts_2 : decode cX12_melts 2 = .ok (.iload_n 2, 1) := by decide +kernel
theorem tX12_melts_2 {d : Nat} {l0 l1 l3 : Option Value} {x : Int32} {m : jmM} {Q : Option Value → jmM → Prop} : AW d 243 2 [l0, l1, some (.int x), l3] [] m Q ↔ AW d 243 3 [l0, l1, some (.int x), l3] [.int x] m Q := A_iload_n hB_X12_melts dX12_melts_2 rfl
theorem dX12_melts_3 : decode cX12_melts 3 = .ok (.aload_n 0, 1) := by decide +kernel
theorem tX12_melts_3 {d : Nat} {l1 l2 l3 : Option Value} {v0 : Value} {x : Nat} {m : jmM} {Q : Option Value → jmM → Prop} : AW d 243 3 [some (.ref x), l1, l2, l3] [v0] m Q ↔ AW d 243 4 [some (.ref x), l1, l2, l3] [.ref x, v0] m Q := A_aload_n hB_X12_melts dX12_melts_3 rfl
theorem dX12_melts_4 : decode cX12_melts 4 = .ok (.getfield 51, 3) := by decide +kernel
theorem tX12_melts_4 {d : Nat} {l0 l1 l2 l3 : Option Value} {v1 : Value} {a : Nat} {m : jmM} {Q : Option Value → jmM → Prop} : AW d 243 4 [l0, l1, l2, l3] [.ref a, v1] m Q ↔ (mS m a).1 = 12 ∧ AW d 243 7 [l0, l1, l2, l3] [va_rf (mR m a 25), v1] m Q := A_getfield (f := fun m a => va_rf (mR m a 25)) hB_X12_melts dX12_melts_4 hO_X12_melts fF_12_51 rfl
theorem dX12_melts_7 : decode cX12_melts 7 = .ok (.bipush 15, 2) := by decide +kernel
theorem tX12_melts_7 {d : Nat} {l0 l1 l2 l3 : Option Value} {v0 v1 : Value} {m : jmM} {Q : Option Value → jmM → Prop} : AW d 243 7 [l0, l1, l2, l3] [v0, v1] m Q ↔ AW d 243 9 [l0, l1, l2, l3] [.int 15, v0, v1] m Q := A_bipush hB_X12_melts dX12_melts_7 rfl
theorem dX12_melts_9 : decode cX12_melts 9 = .ok (.iaload, 1) := by decide +kernel
theorem tX12_melts_9 {d : Nat} {l0 l1 l2 l3 : Option Value} {v2 : Value} {i : Int32} {a : Nat} {m : jmM} {Q : Option Value → jmM → Prop} : AW d 243 9 [l0, l1, l2, l3] [.int i, .ref a, v2] m Q ↔ (((mS m a).1 = 20 ∨ a = jScr) ∧ jIx i (mS m a).2) ∧ AW d 243 10 [l0, l1, l2, l3] [.int (mI m a (jx i)), v2] m Q := A_iaload hB_X12_melts dX12_melts_9
theorem dX12_melts_10 : decode cX12_melts 10 = .ok (.if_icmp .ge 75, 3) := by decide +kernel
theorem tX12_melts_10 {d : Nat} {l0 l1 l2 l3 : Option Value} {x y : Int32} {m : jmM} {Q : Option Value → jmM → Prop} : AW d 243 10 [l0, l1, l2, l3] [.int y, .int x] m Q ↔ if y ≤ x then AW d 243 85 [l0, l1, l2, l3] [] m Q else AW d 243 13 [l0, l1, l2, l3] [] m Q := A_icmp_ge hB_X12_melts dX12_melts_10 (by decide)
theorem dX12_melts_13 : decode cX12_melts 13 = .ok (.aload_n 0, 1) := by decide +kernel
theorem tX12_melts_13 {d : Nat} {l1 l2 l3 : Option Value} {x : Nat} {m : jmM} {Q : Option Value → jmM → Prop} : AW d 243 13 [some (.ref x), l1, l2, l3] [] m Q ↔ AW d 243 14 [some (.ref x), l1, l2, l3] [.ref x] m Q := A_aload_n hB_X12_melts dX12_melts_13 rfl
theorem dX12_melts_14 : decode cX12_melts 14 = .ok (.getfield 51, 3) := by decide +kernel
theorem tX12_melts_14 {d : Nat} {l0 l1 l2 l3 : Option Value} {a : Nat} {m : jmM} {Q : Option Value → jmM → Prop} : AW d 243 14 [l0, l1, l2, l3] [.ref a] m Q ↔ (mS m a).1 = 12 ∧ AW d 243 17 [l0, l1, l2, l3] [va_rf (mR m a 25)] m Q := A_getfield (f := fun m a => va_rf (mR m a 25)) hB_X12_melts dX12_melts_14 hO_X12_melts fF_12_51 rfl
theorem dX12_melts_17 : decode cX12_melts 17 = .ok (.bipush 9, 2) := by decide +kernel
theorem tX12_melts_17 {d : Nat} {l0 l1 l2 l3 : Option Value} {v0 : Value} {m : jmM} {Q : Option Value → jmM → Prop} : AW d 243 17 [l0, l1, l2, l3] [v0] m Q ↔ AW d 243 19 [l0, l1, l2, l3] [.int 9, v0] m Q := A_bipush hB_X12_melts dX12_melts_17 rfl
theorem dX12_melts_19 : decode cX12_melts 19 = .ok (.dup2, 1) := by decide +kernel
theorem tX12_melts_19 {d : Nat} {l0 l1 l2 l3 : Option Value} {x : Int32} {y : Nat} {m : jmM} {Q : Option Value → jmM → Prop} : AW d 243 19 [l0, l1, l2, l3] [.int x, .ref y] m Q ↔ AW d 243 20 [l0, l1, l2, l3] [.int x, .ref y, .int x, .ref y] m Q := A_dup2_ia hB_X12_melts dX12_melts_19
theorem dX12_melts_20 : decode cX12_melts 20 = .ok (.iaload, 1) := by decide +kernel
theorem tX12_melts_20 {d : Nat} {l0 l1 l2 l3 : Option Value} {v2 v3 : Value} {i : Int32} {a : Nat} {m : jmM} {Q : Option Value → jmM → Prop} : AW d 243 20 [l0, l1, l2, l3] [.int i, .ref a, v2, v3] m Q ↔ (((mS m a).1 = 20 ∨ a = jScr) ∧ jIx i (mS m a).2) ∧ AW d 243 21 [l0, l1, l2, l3] [.int (mI m a (jx i)), v2, v3] m Q := A_iaload hB_X12_melts dX12_melts_20
theorem dX12_melts_21 : decode cX12_melts 21 = .ok (.aload_n 0, 1) := by decide +kernel
theorem tX12_melts_21 {d : Nat} {l1 l2 l3 : Option Value} {v0 v1 v2 : Value} {x : Nat} {m : jmM} {Q : Option Value → jmM → Prop} : AW d 243 21 [some (.ref x), l1, l2, l3] [v0, v1, v2] m Q ↔ AW d 243 22 [some (.ref x), l1, l2, l3] [.ref x, v0, v1, v2] m Q := A_aload_n hB_X12_melts dX12_melts_21 rfl
theorem dX12_melts_22 : decode cX12_melts 22 = .ok (.iload_n 2, 1) := by decide +kernel
theorem tX12_melts_22 {d : Nat} {l0 l1 l3 : Option Value} {v0 v1 v2 v3 : Value} {x : Int32} {m : jmM} {Q : Option Value → jmM → Prop} : AW d 243 22 [l0, l1, some (.int x), l3] [v0, v1, v2, v3] m Q ↔ AW d 243 23 [l0, l1, some (.int x), l3] [.int x, v0, v1, v2, v3] m Q := A_iload_n hB_X12_melts dX12_melts_22 rfl
theorem dX12_melts_23 : decode cX12_melts 23 = .ok (.iconst 3, 1) := by decide +kernel
theorem tX12_melts_23 {d : Nat} {l0 l1 l2 l3 : Option Value} {v0 v1 v2 v3 v4 : Value} {m : jmM} {Q : Option Value → jmM → Prop} : AW d 243 23 [l0, l1, l2, l3] [v0, v1, v2, v3, v4] m Q ↔ AW d 243 24 [l0, l1, l2, l3] [.int 3, v0, v1, v2, v3, v4] m Q := A_iconst hB_X12_melts dX12_melts_23 (by decide)
theorem dX12_melts_24 : decode cX12_melts 24 = .ok (.invokevirtual 297, 3) := by decide +kernel
theorem tX12_melts_24 {d : Nat} {l0 l1 l2 l3 : Option Value} {v3 v4 v5 : Value} {y0 y1 : Value} {a : Nat} {m : jmM} {Q : Option Value → jmM → Prop} : AW d 243 24 [l0, l1, l2, l3] [y0, y1, .ref a, v3, v4, v5] m Q ↔ (mS m a).1 = 12 ∧ CC d 229 [.ref a, y1, y0] m (jK d 243 27 [l0, l1, l2, l3] [v3, v4, v5] Q) := A_callV hB_X12_melts dX12_melts_24 hO_X12_melts fS_12_297 ⟨Nat.le_of_ble_eq_true rfl, Nat.le_of_ble_eq_true rfl⟩ rfl rfl rfl
theorem dX12_melts_27 : decode cX12_melts 27 = .ok (.iadd, 1) := by decide +kernel
theorem tX12_melts_27 {d : Nat} {l0 l1 l2 l3 : Option Value} {v2 v3 : Value} {x y : Int32} {m : jmM} {Q : Option Value → jmM → Prop} : AW d 243 27 [l0, l1, l2, l3] [.int y, .int x, v2, v3] m Q ↔ AW d 243 28 [l0, l1, l2, l3] [.int (x + y), v2, v3] m Q := A_iadd hB_X12_melts dX12_melts_27
theorem dX12_melts_28 : decode cX12_melts 28 = .ok (.iastore, 1) := by decide +kernel
theorem tX12_melts_28 {d : Nat} {l0 l1 l2 l3 : Option Value} {x i : Int32} {a : Nat} {m : jmM} {Q : Option Value → jmM → Prop} : AW d 243 28 [l0, l1, l2, l3] [.int x, .int i, .ref a] m Q ↔ ((mS m a).1 = 20 ∧ jIx i (mS m a).2) ∧ AW d 243 29 [l0, l1, l2, l3] [] (cI m a (jup (mI m a) (jx i) x)) Q := A_iastore hB_X12_melts dX12_melts_28
theorem dX12_melts_29 : decode cX12_melts 29 = .ok (.aload_n 0, 1) := by decide +kernel
theorem tX12_melts_29 {d : Nat} {l1 l2 l3 : Option Value} {x : Nat} {m : jmM} {Q : Option Value → jmM → Prop} : AW d 243 29 [some (.ref x), l1, l2, l3] [] m Q ↔ AW d 243 30 [some (.ref x), l1, l2, l3] [.ref x] m Q := A_aload_n hB_X12_melts dX12_melts_29 rfl
theorem dX12_melts_30 : decode cX12_melts 30 = .ok (.getfield 51, 3) := by decide +kernel
theorem tX12_melts_30 {d : Nat} {l0 l1 l2 l3 : Option Value} {a : Nat} {m : jmM} {Q : Option Value → jmM → Prop} : AW d 243 30 [l0, l1, l2, l3] [.ref a] m Q ↔ (mS m a).1 = 12 ∧ AW d 243 33 [l0, l1, l2, l3] [va_rf (mR m a 25)] m Q := A_getfield (f := fun m a => va_rf (mR m a 25)) hB_X12_melts dX12_melts_30 hO_X12_melts fF_12_51 rfl
theorem dX12_melts_33 : decode cX12_melts 33 = .ok (.bipush 13, 2) := by decide +kernel
theorem tX12_melts_33 {d : Nat} {l0 l1 l2 l3 : Option Value} {v0 : Value} {m : jmM} {Q : Option Value → jmM → Prop} : AW d 243 33 [l0, l1, l2, l3] [v0] m Q ↔ AW d 243 35 [l0, l1, l2, l3] [.int 13, v0] m Q := A_bipush hB_X12_melts dX12_melts_33 rfl
theorem dX12_melts_35 : decode cX12_melts 35 = .ok (.dup2, 1) := by decide +kernel
theorem tX12_melts_35 {d : Nat} {l0 l1 l2 l3 : Option Value} {x : Int32} {y : Nat} {m : jmM} {Q : Option Value → jmM → Prop} : AW d 243 35 [l0, l1, l2, l3] [.int x, .ref y] m Q ↔ AW d 243 36 [l0, l1, l2, l3] [.int x, .ref y, .int x, .ref y] m Q := A_dup2_ia hB_X12_melts dX12_melts_35
theorem dX12_melts_36 : decode cX12_melts 36 = .ok (.iaload, 1) := by decide +kernel
theorem tX12_melts_36 {d : Nat} {l0 l1 l2 l3 : Option Value} {v2 v3 : Value} {i : Int32} {a : Nat} {m : jmM} {Q : Option Value → jmM → Prop} : AW d 243 36 [l0, l1, l2, l3] [.int i, .ref a, v2, v3] m Q ↔ (((mS m a).1 = 20 ∨ a = jScr) ∧ jIx i (mS m a).2) ∧ AW d 243 37 [l0, l1, l2, l3] [.int (mI m a (jx i)), v2, v3] m Q := A_iaload hB_X12_melts dX12_melts_36
theorem dX12_melts_37 : decode cX12_melts 37 = .ok (.aload_n 0, 1) := by decide +kernel
theorem tX12_melts_37 {d : Nat} {l1 l2 l3 : Option Value} {v0 v1 v2 : Value} {x : Nat} {m : jmM} {Q : Option Value → jmM → Prop} : AW d 243 37 [some (.ref x), l1, l2, l3] [v0, v1, v2] m Q ↔ AW d 243 38 [some (.ref x), l1, l2, l3] [.ref x, v0, v1, v2] m Q := A_aload_n hB_X12_melts dX12_melts_37 rfl
theorem dX12_melts_38 : decode cX12_melts 38 = .ok (.iload_n 2, 1) := by decide +kernel
theorem tX12_melts_38 {d : Nat} {l0 l1 l3 : Option Value} {v0 v1 v2 v3 : Value} {x : Int32} {m : jmM} {Q : Option Value → jmM → Prop} : AW d 243 38 [l0, l1, some (.int x), l3] [v0, v1, v2, v3] m Q ↔ AW d 243 39 [l0, l1, some (.int x), l3] [.int x, v0, v1, v2, v3] m Q := A_iload_n hB_X12_melts dX12_melts_38 rfl
theorem dX12_melts_39 : decode cX12_melts 39 = .ok (.iconst 2, 1) := by decide +kernel
theorem tX12_melts_39 {d : Nat} {l0 l1 l2 l3 : Option Value} {v0 v1 v2 v3 v4 : Value} {m : jmM} {Q : Option Value → jmM → Prop} : AW d 243 39 [l0, l1, l2, l3] [v0, v1, v2, v3, v4] m Q ↔ AW d 243 40 [l0, l1, l2, l3] [.int 2, v0, v1, v2, v3, v4] m Q := A_iconst hB_X12_melts dX12_melts_39 (by decide)
theorem dX12_melts_40 : decode cX12_melts 40 = .ok (.invokevirtual 297, 3) := by decide +kernel
theorem tX12_melts_40 {d : Nat} {l0 l1 l2 l3 : Option Value} {v3 v4 v5 : Value} {y0 y1 : Value} {a : Nat} {m : jmM} {Q : Option Value → jmM → Prop} : AW d 243 40 [l0, l1, l2, l3] [y0, y1, .ref a, v3, v4, v5] m Q ↔ (mS m a).1 = 12 ∧ CC d 229 [.ref a, y1, y0] m (jK d 243 43 [l0, l1, l2, l3] [v3, v4, v5] Q) := A_callV hB_X12_melts dX12_melts_40 hO_X12_melts fS_12_297 ⟨Nat.le_of_ble_eq_true rfl, Nat.le_of_ble_eq_true rfl⟩ rfl rfl rfl
theorem dX12_melts_43 : decode cX12_melts 43 = .ok (.isub, 1) := by decide +kernel
theorem tX12_melts_43 {d : Nat} {l0 l1 l2 l3 : Option Value} {v2 v3 : Value} {x y : Int32} {m : jmM} {Q : Option Value → jmM → Prop} : AW d 243 43 [l0, l1, l2, l3] [.int y, .int x, v2, v3] m Q ↔ AW d 243 44 [l0, l1, l2, l3] [.int (x - y), v2, v3] m Q := A_isub hB_X12_melts dX12_melts_43
theorem dX12_melts_44 : decode cX12_melts 44 = .ok (.iastore, 1) := by decide +kernel
theorem tX12_melts_44 {d : Nat} {l0 l1 l2 l3 : Option Value} {x i : Int32} {a : Nat} {m : jmM} {Q : Option Value → jmM → Prop} : AW d 243 44 [l0, l1, l2, l3] [.int x, .int i, .ref a] m Q ↔ ((mS m a).1 = 20 ∧ jIx i (mS m a).2) ∧ AW d 243 45 [l0, l1, l2, l3] [] (cI m a (jup (mI m a) (jx i) x)) Q := A_iastore hB_X12_melts dX12_melts_44
theorem dX12_melts_45 : decode cX12_melts 45 = .ok (.iconst 0, 1) := by decide +kernel
theorem tX12_melts_45 {d : Nat} {l0 l1 l2 l3 : Option Value} {m : jmM} {Q : Option Value → jmM → Prop} : AW d 243 45 [l0, l1, l2, l3] [] m Q ↔ AW d 243 46 [l0, l1, l2, l3] [.int 0] m Q := A_iconst hB_X12_melts dX12_melts_45 (by decide)
theorem dX12_melts_46 : decode cX12_melts 46 = .ok (.istore_n 3, 1) := by decide +kernel
theorem tX12_melts_46 {d : Nat} {l0 l1 l2 l3 : Option Value} {x : Int32} {m : jmM} {Q : Option Value → jmM → Prop} : AW d 243 46 [l0, l1, l2, l3] [.int x] m Q ↔ AW d 243 47 [l0, l1, jc1 l2, some (.int x)] [] m Q := A_istore_n hB_X12_melts dX12_melts_46 (Nat.le_of_ble_eq_true rfl) rfl
theorem dX12_melts_47 : decode cX12_melts 47 = .ok (.iload_n 3, 1) := by decide +kernel
theorem tX12_melts_47 {d : Nat} {l0 l1 l2 : Option Value} {x : Int32} {m : jmM} {Q : Option Value → jmM → Prop} : AW d 243 47 [l0, l1, l2, some (.int x)] [] m Q ↔ AW d 243 48 [l0, l1, l2, some (.int x)] [.int x] m Q := A_iload_n hB_X12_melts dX12_melts_47 rfl
theorem dX12_melts_48 : decode cX12_melts 48 = .ok (.bipush 6, 2) := by decide +kernel
theorem tX12_melts_48 {d : Nat} {l0 l1 l2 l3 : Option Value} {v0 : Value} {m : jmM} {Q : Option Value → jmM → Prop} : AW d 243 48 [l0, l1, l2, l3] [v0] m Q ↔ AW d 243 50 [l0, l1, l2, l3] [.int 6, v0] m Q := A_bipush hB_X12_melts dX12_melts_48 rfl
theorem dX12_melts_50 : decode cX12_melts 50 = .ok (.if_icmp .ge 29, 3) := by decide +kernel
theorem tX12_melts_50 {d : Nat} {l0 l1 l2 l3 : Option Value} {x y : Int32} {m : jmM} {Q : Option Value → jmM → Prop} : AW d 243 50 [l0, l1, l2, l3] [.int y, .int x] m Q ↔ if y ≤ x then AW d 243 79 [l0, l1, l2, l3] [] m Q else AW d 243 53 [l0, l1, l2, l3] [] m Q := A_icmp_ge hB_X12_melts dX12_melts_50 (by decide)
theorem dX12_melts_53 : decode cX12_melts 53 = .ok (.aload_n 0, 1) := by decide +kernel
theorem tX12_melts_53 {d : Nat} {l1 l2 l3 : Option Value} {x : Nat} {m : jmM} {Q : Option Value → jmM → Prop} : AW d 243 53 [some (.ref x), l1, l2, l3] [] m Q ↔ AW d 243 54 [some (.ref x), l1, l2, l3] [.ref x] m Q := A_aload_n hB_X12_melts dX12_melts_53 rfl
theorem dX12_melts_54 : decode cX12_melts 54 = .ok (.getfield 54, 3) := by decide +kernel
theorem tX12_melts_54 {d : Nat} {l0 l1 l2 l3 : Option Value} {a : Nat} {m : jmM} {Q : Option Value → jmM → Prop} : AW d 243 54 [l0, l1, l2, l3] [.ref a] m Q ↔ (mS m a).1 = 12 ∧ AW d 243 57 [l0, l1, l2, l3] [va_rf (mR m a 26)] m Q := A_getfield (f := fun m a => va_rf (mR m a 26)) hB_X12_melts dX12_melts_54 hO_X12_melts fF_12_54 rfl
theorem dX12_melts_57 : decode cX12_melts 57 = .ok (.iload_n 3, 1) := by decide +kernel
theorem tX12_melts_57 {d : Nat} {l0 l1 l2 : Option Value} {v0 : Value} {x : Int32} {m : jmM} {Q : Option Value → jmM → Prop} : AW d 243 57 [l0, l1, l2, some (.int x)] [v0] m Q ↔ AW d 243 58 [l0, l1, l2, some (.int x)] [.int x, v0] m Q := A_iload_n hB_X12_melts dX12_melts_57 rfl
theorem dX12_melts_58 : decode cX12_melts 58 = .ok (.dup2, 1) := by decide +kernel
theorem tX12_melts_58 {d : Nat} {l0 l1 l2 l3 : Option Value} {x : Int32} {y : Nat} {m : jmM} {Q : Option Value → jmM → Prop} : AW d 243 58 [l0, l1, l2, l3] [.int x, .ref y] m Q ↔ AW d 243 59 [l0, l1, l2, l3] [.int x, .ref y, .int x, .ref y] m Q := A_dup2_ia hB_X12_melts dX12_melts_58
theorem dX12_melts_59 : decode cX12_melts 59 = .ok (.laload, 1) := by decide +kernel
theorem tX12_melts_59 {d : Nat} {l0 l1 l2 l3 : Option Value} {v2 v3 : Value} {i : Int32} {a : Nat} {m : jmM} {Q : Option Value → jmM → Prop} : AW d 243 59 [l0, l1, l2, l3] [.int i, .ref a, v2, v3] m Q ↔ ((mS m a).1 = 21 ∧ jIx i (mS m a).2) ∧ AW d 243 60 [l0, l1, l2, l3] [.long (mL m a (jx i)), v2, v3] m Q := A_laload hB_X12_melts dX12_melts_59
theorem dX12_melts_60 : decode cX12_melts 60 = .ok (.aload_n 0, 1) := by decide +kernel
theorem tX12_melts_60 {d : Nat} {l1 l2 l3 : Option Value} {v0 v1 v2 : Value} {x : Nat} {m : jmM} {Q : Option Value → jmM → Prop} : AW d 243 60 [some (.ref x), l1, l2, l3] [v0, v1, v2] m Q ↔ AW d 243 61 [some (.ref x), l1, l2, l3] [.ref x, v0, v1, v2] m Q := A_aload_n hB_X12_melts dX12_melts_60 rfl
theorem dX12_melts_61 : decode cX12_melts 61 = .ok (.getfield 66, 3) := by decide +kernel
theorem tX12_melts_61 {d : Nat} {l0 l1 l2 l3 : Option Value} {v1 v2 v3 : Value} {a : Nat} {m : jmM} {Q : Option Value → jmM → Prop} : AW d 243 61 [l0, l1, l2, l3] [.ref a, v1, v2, v3] m Q ↔ (mS m a).1 = 12 ∧ AW d 243 64 [l0, l1, l2, l3] [va_rf (mR m a 30), v1, v2, v3] m Q := A_getfield (f := fun m a => va_rf (mR m a 30)) hB_X12_melts dX12_melts_61 hO_X12_melts fF_12_66 rfl
theorem dX12_melts_64 : decode cX12_melts 64 = .ok (.bipush 6, 2) := by decide +kernel
theorem tX12_melts_64 {d : Nat} {l0 l1 l2 l3 : Option Value} {v0 v1 v2 v3 : Value} {m : jmM} {Q : Option Value → jmM → Prop} : AW d 243 64 [l0, l1, l2, l3] [v0, v1, v2, v3] m Q ↔ AW d 243 66 [l0, l1, l2, l3] [.int 6, v0, v1, v2, v3] m Q := A_bipush hB_X12_melts dX12_melts_64 rfl
theorem dX12_melts_66 : decode cX12_melts 66 = .ok (.iload_n 2, 1) := by decide +kernel
theorem tX12_melts_66 {d : Nat} {l0 l1 l3 : Option Value} {v0 v1 v2 v3 v4 : Value} {x : Int32} {m : jmM} {Q : Option Value → jmM → Prop} : AW d 243 66 [l0, l1, some (.int x), l3] [v0, v1, v2, v3, v4] m Q ↔ AW d 243 67 [l0, l1, some (.int x), l3] [.int x, v0, v1, v2, v3, v4] m Q := A_iload_n hB_X12_melts dX12_melts_66 rfl
theorem dX12_melts_67 : decode cX12_melts 67 = .ok (.imul, 1) := by decide +kernel
theorem tX12_melts_67 {d : Nat} {l0 l1 l2 l3 : Option Value} {v2 v3 v4 v5 : Value} {x y : Int32} {m : jmM} {Q : Option Value → jmM → Prop} : AW d 243 67 [l0, l1, l2, l3] [.int y, .int x, v2, v3, v4, v5] m Q ↔ AW d 243 68 [l0, l1, l2, l3] [.int (x * y), v2, v3, v4, v5] m Q := A_imul hB_X12_melts dX12_melts_67
theorem dX12_melts_68 : decode cX12_melts 68 = .ok (.iload_n 3, 1) := by decide +kernel
theorem tX12_melts_68 {d : Nat} {l0 l1 l2 : Option Value} {v0 v1 v2 v3 v4 : Value} {x : Int32} {m : jmM} {Q : Option Value → jmM → Prop} : AW d 243 68 [l0, l1, l2, some (.int x)] [v0, v1, v2, v3, v4] m Q ↔ AW d 243 69 [l0, l1, l2, some (.int x)] [.int x, v0, v1, v2, v3, v4] m Q := A_iload_n hB_X12_melts dX12_melts_68 rfl
theorem dX12_melts_69 : decode cX12_melts 69 = .ok (.iadd, 1) := by decide +kernel
theorem tX12_melts_69 {d : Nat} {l0 l1 l2 l3 : Option Value} {v2 v3 v4 v5 : Value} {x y : Int32} {m : jmM} {Q : Option Value → jmM → Prop} : AW d 243 69 [l0, l1, l2, l3] [.int y, .int x, v2, v3, v4, v5] m Q ↔ AW d 243 70 [l0, l1, l2, l3] [.int (x + y), v2, v3, v4, v5] m Q := A_iadd hB_X12_melts dX12_melts_69
theorem dX12_melts_70 : decode cX12_melts 70 = .ok (.laload, 1) := by decide +kernel
theorem tX12_melts_70 {d : Nat} {l0 l1 l2 l3 : Option Value} {v2 v3 v4 : Value} {i : Int32} {a : Nat} {m : jmM} {Q : Option Value → jmM → Prop} : AW d 243 70 [l0, l1, l2, l3] [.int i, .ref a, v2, v3, v4] m Q ↔ ((mS m a).1 = 21 ∧ jIx i (mS m a).2) ∧ AW d 243 71 [l0, l1, l2, l3] [.long (mL m a (jx i)), v2, v3, v4] m Q := A_laload hB_X12_melts dX12_melts_70
theorem dX12_melts_71 : decode cX12_melts 71 = .ok (.ladd, 1) := by decide +kernel
theorem tX12_melts_71 {d : Nat} {l0 l1 l2 l3 : Option Value} {v2 v3 : Value} {x y : Int64} {m : jmM} {Q : Option Value → jmM → Prop} : AW d 243 71 [l0, l1, l2, l3] [.long y, .long x, v2, v3] m Q ↔ AW d 243 72 [l0, l1, l2, l3] [.long (x + y), v2, v3] m Q := A_ladd hB_X12_melts dX12_melts_71
theorem dX12_melts_72 : decode cX12_melts 72 = .ok (.lastore, 1) := by decide +kernel
theorem tX12_melts_72 {d : Nat} {l0 l1 l2 l3 : Option Value} {x : Int64} {i : Int32} {a : Nat} {m : jmM} {Q : Option Value → jmM → Prop} : AW d 243 72 [l0, l1, l2, l3] [.long x, .int i, .ref a] m Q ↔ ((mS m a).1 = 21 ∧ jIx i (mS m a).2) ∧ AW d 243 73 [l0, l1, l2, l3] [] (cL m a (jup (mL m a) (jx i) x)) Q := A_lastore hB_X12_melts dX12_melts_72
theorem dX12_melts_73 : decode cX12_melts 73 = .ok (.iinc 3 1, 3) := by decide +kernel
theorem tX12_melts_73 {d : Nat} {l0 l1 l2 : Option Value} {x : Int32} {m : jmM} {Q : Option Value → jmM → Prop} : AW d 243 73 [l0, l1, l2, some (.int x)] [] m Q ↔ AW d 243 76 [l0, l1, jc1 l2, some (.int (x + 1))] [] m Q := A_iinc hB_X12_melts dX12_melts_73 rfl (Nat.le_of_ble_eq_true rfl) (v := 1) (by decide) rfl
theorem dX12_melts_76 : decode cX12_melts 76 = .ok (.goto (-29), 3) := by decide +kernel
theorem tX12_melts_76 {d : Nat} {l0 l1 l2 l3 : Option Value} {m : jmM} {Q : Option Value → jmM → Prop} : AW d 243 76 [l0, l1, l2, l3] [] m Q ↔ AW d 243 47 [l0, l1, l2, l3] [] m Q := A_goto hB_X12_melts dX12_melts_76 (by decide)
theorem dX12_melts_79 : decode cX12_melts 79 = .ok (.iinc 2 1, 3) := by decide +kernel
theorem tX12_melts_79 {d : Nat} {l0 l1 l3 : Option Value} {x : Int32} {m : jmM} {Q : Option Value → jmM → Prop} : AW d 243 79 [l0, l1, some (.int x), l3] [] m Q ↔ AW d 243 82 [l0, jc1 l1, some (.int (x + 1)), l3] [] m Q := A_iinc hB_X12_melts dX12_melts_79 rfl (Nat.le_of_ble_eq_true rfl) (v := 1) (by decide) rfl
theorem dX12_melts_82 : decode cX12_melts 82 = .ok (.goto (-80), 3) := by decide +kernel
theorem tX12_melts_82 {d : Nat} {l0 l1 l2 l3 : Option Value} {m : jmM} {Q : Option Value → jmM → Prop} : AW d 243 82 [l0, l1, l2, l3] [] m Q ↔ AW d 243 2 [l0, l1, l2, l3] [] m Q := A_goto hB_X12_melts dX12_melts_82 (by decide)
theorem dX12_melts_85 : decode cX12_melts 85 = .ok (.aload_n 0, 1) := by decide +kernel
theorem tX12_melts_85 {d : Nat} {l1 l2 l3 : Option Value} {x : Nat} {m : jmM} {Q : Option Value → jmM → Prop} : AW d 243 85 [some (.ref x), l1, l2, l3] [] m Q ↔ AW d 243 86 [some (.ref x), l1, l2, l3] [.ref x] m Q := A_aload_n hB_X12_melts dX12_melts_85 rfl
theorem dX12_melts_86 : decode cX12_melts 86 = .ok (.getfield 51, 3) := by decide +kernel
theorem tX12_melts_86 {d : Nat} {l0 l1 l2 l3 : Option Value} {a : Nat} {m : jmM} {Q : Option Value → jmM → Prop} : AW d 243 86 [l0, l1, l2, l3] [.ref a] m Q ↔ (mS m a).1 = 12 ∧ AW d 243 89 [l0, l1, l2, l3] [va_rf (mR m a 25)] m Q := A_getfield (f := fun m a => va_rf (mR m a 25)) hB_X12_melts dX12_melts_86 hO_X12_melts fF_12_51 rfl
theorem dX12_melts_89 : decode cX12_melts 89 = .ok (.bipush 15, 2) := by decide +kernel
theorem tX12_melts_89 {d : Nat} {l0 l1 l2 l3 : Option Value} {v0 : Value} {m : jmM} {Q : Option Value → jmM → Prop} : AW d 243 89 [l0, l1, l2, l3] [v0] m Q ↔ AW d 243 91 [l0, l1, l2, l3] [.int 15, v0] m Q := A_bipush hB_X12_melts dX12_melts_89 rfl
theorem dX12_melts_91 : decode cX12_melts 91 = .ok (.iload_n 1, 1) := by decide +kernel
theorem tX12_melts_91 {d : Nat} {l0 l2 l3 : Option Value} {v0 v1 : Value} {x : Int32} {m : jmM} {Q : Option Value → jmM → Prop} : AW d 243 91 [l0, some (.int x), l2, l3] [v0, v1] m Q ↔ AW d 243 92 [l0, some (.int x), l2, l3] [.int x, v0, v1] m Q := A_iload_n hB_X12_melts dX12_melts_91 rfl
theorem dX12_melts_92 : decode cX12_melts 92 = .ok (.iastore, 1) := by decide +kernel
theorem tX12_melts_92 {d : Nat} {l0 l1 l2 l3 : Option Value} {x i : Int32} {a : Nat} {m : jmM} {Q : Option Value → jmM → Prop} : AW d 243 92 [l0, l1, l2, l3] [.int x, .int i, .ref a] m Q ↔ ((mS m a).1 = 20 ∧ jIx i (mS m a).2) ∧ AW d 243 93 [l0, l1, l2, l3] [] (cI m a (jup (mI m a) (jx i) x)) Q := A_iastore hB_X12_melts dX12_melts_92
theorem dX12_melts_93 : decode cX12_melts 93 = .ok (.aload_n 0, 1) := by decide +kernel
theorem tX12_melts_93 {d : Nat} {l1 l2 l3 : Option Value} {x : Nat} {m : jmM} {Q : Option Value → jmM → Prop} : AW d 243 93 [some (.ref x), l1, l2, l3] [] m Q ↔ AW d 243 94 [some (.ref x), l1, l2, l3] [.ref x] m Q := A_aload_n hB_X12_melts dX12_melts_93 rfl
theorem dX12_melts_94 : decode cX12_melts 94 = .ok (.getfield 51, 3) := by decide +kernel
theorem tX12_melts_94 {d : Nat} {l0 l1 l2 l3 : Option Value} {a : Nat} {m : jmM} {Q : Option Value → jmM → Prop} : AW d 243 94 [l0, l1, l2, l3] [.ref a] m Q ↔ (mS m a).1 = 12 ∧ AW d 243 97 [l0, l1, l2, l3] [va_rf (mR m a 25)] m Q := A_getfield (f := fun m a => va_rf (mR m a 25)) hB_X12_melts dX12_melts_94 hO_X12_melts fF_12_51 rfl
theorem dX12_melts_97 : decode cX12_melts 97 = .ok (.bipush 10, 2) := by decide +kernel
theorem tX12_melts_97 {d : Nat} {l0 l1 l2 l3 : Option Value} {v0 : Value} {m : jmM} {Q : Option Value → jmM → Prop} : AW d 243 97 [l0, l1, l2, l3] [v0] m Q ↔ AW d 243 99 [l0, l1, l2, l3] [.int 10, v0] m Q := A_bipush hB_X12_melts dX12_melts_97 rfl
theorem dX12_melts_99 : decode cX12_melts 99 = .ok (.aload_n 0, 1) := by decide +kernel
theorem tX12_melts_99 {d : Nat} {l1 l2 l3 : Option Value} {v0 v1 : Value} {x : Nat} {m : jmM} {Q : Option Value → jmM → Prop} : AW d 243 99 [some (.ref x), l1, l2, l3] [v0, v1] m Q ↔ AW d 243 100 [some (.ref x), l1, l2, l3] [.ref x, v0, v1] m Q := A_aload_n hB_X12_melts dX12_melts_99 rfl
theorem dX12_melts_100 : decode cX12_melts 100 = .ok (.iload_n 1, 1) := by decide +kernel
theorem tX12_melts_100 {d : Nat} {l0 l2 l3 : Option Value} {v0 v1 v2 : Value} {x : Int32} {m : jmM} {Q : Option Value → jmM → Prop} : AW d 243 100 [l0, some (.int x), l2, l3] [v0, v1, v2] m Q ↔ AW d 243 101 [l0, some (.int x), l2, l3] [.int x, v0, v1, v2] m Q := A_iload_n hB_X12_melts dX12_melts_100 rfl
theorem dX12_melts_101 : decode cX12_melts 101 = .ok (.iconst 1, 1) := by decide +kernel
theorem tX12_melts_101 {d : Nat} {l0 l1 l2 l3 : Option Value} {v0 v1 v2 v3 : Value} {m : jmM} {Q : Option Value → jmM → Prop} : AW d 243 101 [l0, l1, l2, l3] [v0, v1, v2, v3] m Q ↔ AW d 243 102 [l0, l1, l2, l3] [.int 1, v0, v1, v2, v3] m Q := A_iconst hB_X12_melts dX12_melts_101 (by decide)
theorem dX12_melts_102 : decode cX12_melts 102 = .ok (.isub, 1) := by decide +kernel
theorem tX12_melts_102 {d : Nat} {l0 l1 l2 l3 : Option Value} {v2 v3 v4 : Value} {x y : Int32} {m : jmM} {Q : Option Value → jmM → Prop} : AW d 243 102 [l0, l1, l2, l3] [.int y, .int x, v2, v3, v4] m Q ↔ AW d 243 103 [l0, l1, l2, l3] [.int (x - y), v2, v3, v4] m Q := A_isub hB_X12_melts dX12_melts_102
theorem dX12_melts_103 : decode cX12_melts 103 = .ok (.invokevirtual 303, 3) := by decide +kernel
theorem tX12_melts_103 {d : Nat} {l0 l1 l2 l3 : Option Value} {v2 v3 : Value} {y0 : Value} {a : Nat} {m : jmM} {Q : Option Value → jmM → Prop} : AW d 243 103 [l0, l1, l2, l3] [y0, .ref a, v2, v3] m Q ↔ (mS m a).1 = 12 ∧ CC d 233 [.ref a, y0] m (jK d 243 106 [l0, l1, l2, l3] [v2, v3] Q) := A_callV hB_X12_melts dX12_melts_103 hO_X12_melts fS_12_303 ⟨Nat.le_of_ble_eq_true rfl, Nat.le_of_ble_eq_true rfl⟩ rfl rfl rfl
theorem dX12_melts_106 : decode cX12_melts 106 = .ok (.iastore, 1) := by decide +kernel
theorem tX12_melts_106 {d : Nat} {l0 l1 l2 l3 : Option Value} {x i : Int32} {a : Nat} {m : jmM} {Q : Option Value → jmM → Prop} : AW d 243 106 [l0, l1, l2, l3] [.int x, .int i, .ref a] m Q ↔ ((mS m a).1 = 20 ∧ jIx i (mS m a).2) ∧ AW d 243 107 [l0, l1, l2, l3] [] (cI m a (jup (mI m a) (jx i) x)) Q := A_iastore hB_X12_melts dX12_melts_106
theorem dX12_melts_107 : decode cX12_melts 107 = .ok (.aload_n 0, 1) := by decide +kernel
theorem tX12_melts_107 {d : Nat} {l1 l2 l3 : Option Value} {x : Nat} {m : jmM} {Q : Option Value → jmM → Prop} : AW d 243 107 [some (.ref x), l1, l2, l3] [] m Q ↔ AW d 243 108 [some (.ref x), l1, l2, l3] [.ref x] m Q := A_aload_n hB_X12_melts dX12_melts_107 rfl
theorem dX12_melts_108 : decode cX12_melts 108 = .ok (.getfield 51, 3) := by decide +kernel
theorem tX12_melts_108 {d : Nat} {l0 l1 l2 l3 : Option Value} {a : Nat} {m : jmM} {Q : Option Value → jmM → Prop} : AW d 243 108 [l0, l1, l2, l3] [.ref a] m Q ↔ (mS m a).1 = 12 ∧ AW d 243 111 [l0, l1, l2, l3] [va_rf (mR m a 25)] m Q := A_getfield (f := fun m a => va_rf (mR m a 25)) hB_X12_melts dX12_melts_108 hO_X12_melts fF_12_51 rfl
theorem dX12_melts_111 : decode cX12_melts 111 = .ok (.bipush 11, 2) := by decide +kernel
theorem tX12_melts_111 {d : Nat} {l0 l1 l2 l3 : Option Value} {v0 : Value} {m : jmM} {Q : Option Value → jmM → Prop} : AW d 243 111 [l0, l1, l2, l3] [v0] m Q ↔ AW d 243 113 [l0, l1, l2, l3] [.int 11, v0] m Q := A_bipush hB_X12_melts dX12_melts_111 rfl
theorem dX12_melts_113 : decode cX12_melts 113 = .ok (.iload_n 1, 1) := by decide +kernel
theorem tX12_melts_113 {d : Nat} {l0 l2 l3 : Option Value} {v0 v1 : Value} {x : Int32} {m : jmM} {Q : Option Value → jmM → Prop} : AW d 243 113 [l0, some (.int x), l2, l3] [v0, v1] m Q ↔ AW d 243 114 [l0, some (.int x), l2, l3] [.int x, v0, v1] m Q := A_iload_n hB_X12_melts dX12_melts_113 rfl
theorem dX12_melts_114 : decode cX12_melts 114 = .ok (.ifCond .ne 12, 3) := by decide +kernel
theorem tX12_melts_114 {d : Nat} {l0 l1 l2 l3 : Option Value} {v1 v2 : Value} {x : Int32} {m : jmM} {Q : Option Value → jmM → Prop} : AW d 243 114 [l0, l1, l2, l3] [.int x, v1, v2] m Q ↔ if x = 0 then AW d 243 117 [l0, l1, l2, l3] [v1, v2] m Q else AW d 243 126 [l0, l1, l2, l3] [v1, v2] m Q := A_if_ne hB_X12_melts dX12_melts_114 (by decide)
theorem dX12_melts_117 : decode cX12_melts 117 = .ok (.aload_n 0, 1) := by decide +kernel
theorem tX12_melts_117 {d : Nat} {l1 l2 l3 : Option Value} {v0 v1 : Value} {x : Nat} {m : jmM} {Q : Option Value → jmM → Prop} : AW d 243 117 [some (.ref x), l1, l2, l3] [v0, v1] m Q ↔ AW d 243 118 [some (.ref x), l1, l2, l3] [.ref x, v0, v1] m Q := A_aload_n hB_X12_melts dX12_melts_117 rfl
theorem dX12_melts_118 : decode cX12_melts 118 = .ok (.getfield 51, 3) := by decide +kernel
theorem tX12_melts_118 {d : Nat} {l0 l1 l2 l3 : Option Value} {v1 v2 : Value} {a : Nat} {m : jmM} {Q : Option Value → jmM → Prop} : AW d 243 118 [l0, l1, l2, l3] [.ref a, v1, v2] m Q ↔ (mS m a).1 = 12 ∧ AW d 243 121 [l0, l1, l2, l3] [va_rf (mR m a 25), v1, v2] m Q := A_getfield (f := fun m a => va_rf (mR m a 25)) hB_X12_melts dX12_melts_118 hO_X12_melts fF_12_51 rfl
theorem dX12_melts_121 : decode cX12_melts 121 = .ok (.iconst 5, 1) := by decide +kernel
theorem tX12_melts_121 {d : Nat} {l0 l1 l2 l3 : Option Value} {v0 v1 v2 : Value} {m : jmM} {Q : Option Value → jmM → Prop} : AW d 243 121 [l0, l1, l2, l3] [v0, v1, v2] m Q ↔ AW d 243 122 [l0, l1, l2, l3] [.int 5, v0, v1, v2] m Q := A_iconst hB_X12_melts dX12_melts_121 (by decide)
theorem dX12_melts_122 : decode cX12_melts 122 = .ok (.iaload, 1) := by decide +kernel
theorem tX12_melts_122 {d : Nat} {l0 l1 l2 l3 : Option Value} {v2 v3 : Value} {i : Int32} {a : Nat} {m : jmM} {Q : Option Value → jmM → Prop} : AW d 243 122 [l0, l1, l2, l3] [.int i, .ref a, v2, v3] m Q ↔ (((mS m a).1 = 20 ∨ a = jScr) ∧ jIx i (mS m a).2) ∧ AW d 243 123 [l0, l1, l2, l3] [.int (mI m a (jx i)), v2, v3] m Q := A_iaload hB_X12_melts dX12_melts_122
theorem dX12_melts_123 : decode cX12_melts 123 = .ok (.goto 11, 3) := by decide +kernel
theorem tX12_melts_123 {d : Nat} {l0 l1 l2 l3 : Option Value} {v0 v1 v2 : Value} {m : jmM} {Q : Option Value → jmM → Prop} : AW d 243 123 [l0, l1, l2, l3] [v0, v1, v2] m Q ↔ AW d 243 134 [l0, l1, l2, l3] [v0, v1, v2] m Q := A_goto hB_X12_melts dX12_melts_123 (by decide)
theorem dX12_melts_126 : decode cX12_melts 126 = .ok (.aload_n 0, 1) := by decide +kernel
theorem tX12_melts_126 {d : Nat} {l1 l2 l3 : Option Value} {v0 v1 : Value} {x : Nat} {m : jmM} {Q : Option Value → jmM → Prop} : AW d 243 126 [some (.ref x), l1, l2, l3] [v0, v1] m Q ↔ AW d 243 127 [some (.ref x), l1, l2, l3] [.ref x, v0, v1] m Q := A_aload_n hB_X12_melts dX12_melts_126 rfl
theorem dX12_melts_127 : decode cX12_melts 127 = .ok (.iload_n 1, 1) := by decide +kernel
theorem tX12_melts_127 {d : Nat} {l0 l2 l3 : Option Value} {v0 v1 v2 : Value} {x : Int32} {m : jmM} {Q : Option Value → jmM → Prop} : AW d 243 127 [l0, some (.int x), l2, l3] [v0, v1, v2] m Q ↔ AW d 243 128 [l0, some (.int x), l2, l3] [.int x, v0, v1, v2] m Q := A_iload_n hB_X12_melts dX12_melts_127 rfl
theorem dX12_melts_128 : decode cX12_melts 128 = .ok (.iconst 1, 1) := by decide +kernel
theorem tX12_melts_128 {d : Nat} {l0 l1 l2 l3 : Option Value} {v0 v1 v2 v3 : Value} {m : jmM} {Q : Option Value → jmM → Prop} : AW d 243 128 [l0, l1, l2, l3] [v0, v1, v2, v3] m Q ↔ AW d 243 129 [l0, l1, l2, l3] [.int 1, v0, v1, v2, v3] m Q := A_iconst hB_X12_melts dX12_melts_128 (by decide)
theorem dX12_melts_129 : decode cX12_melts 129 = .ok (.isub, 1) := by decide +kernel
theorem tX12_melts_129 {d : Nat} {l0 l1 l2 l3 : Option Value} {v2 v3 v4 : Value} {x y : Int32} {m : jmM} {Q : Option Value → jmM → Prop} : AW d 243 129 [l0, l1, l2, l3] [.int y, .int x, v2, v3, v4] m Q ↔ AW d 243 130 [l0, l1, l2, l3] [.int (x - y), v2, v3, v4] m Q := A_isub hB_X12_melts dX12_melts_129
theorem dX12_melts_130 : decode cX12_melts 130 = .ok (.iconst 1, 1) := by decide +kernel
theorem tX12_melts_130 {d : Nat} {l0 l1 l2 l3 : Option Value} {v0 v1 v2 v3 : Value} {m : jmM} {Q : Option Value → jmM → Prop} : AW d 243 130 [l0, l1, l2, l3] [v0, v1, v2, v3] m Q ↔ AW d 243 131 [l0, l1, l2, l3] [.int 1, v0, v1, v2, v3] m Q := A_iconst hB_X12_melts dX12_melts_130 (by decide)
theorem dX12_melts_131 : decode cX12_melts 131 = .ok (.invokevirtual 297, 3) := by decide +kernel
theorem tX12_melts_131 {d : Nat} {l0 l1 l2 l3 : Option Value} {v3 v4 : Value} {y0 y1 : Value} {a : Nat} {m : jmM} {Q : Option Value → jmM → Prop} : AW d 243 131 [l0, l1, l2, l3] [y0, y1, .ref a, v3, v4] m Q ↔ (mS m a).1 = 12 ∧ CC d 229 [.ref a, y1, y0] m (jK d 243 134 [l0, l1, l2, l3] [v3, v4] Q) := A_callV hB_X12_melts dX12_melts_131 hO_X12_melts fS_12_297 ⟨Nat.le_of_ble_eq_true rfl, Nat.le_of_ble_eq_true rfl⟩ rfl rfl rfl
theorem dX12_melts_134 : decode cX12_melts 134 = .ok (.iastore, 1) := by decide +kernel
theorem tX12_melts_134 {d : Nat} {l0 l1 l2 l3 : Option Value} {x i : Int32} {a : Nat} {m : jmM} {Q : Option Value → jmM → Prop} : AW d 243 134 [l0, l1, l2, l3] [.int x, .int i, .ref a] m Q ↔ ((mS m a).1 = 20 ∧ jIx i (mS m a).2) ∧ AW d 243 135 [l0, l1, l2, l3] [] (cI m a (jup (mI m a) (jx i) x)) Q := A_iastore hB_X12_melts dX12_melts_134
theorem dX12_melts_135 : decode cX12_melts 135 = .ok (.aload_n 0, 1) := by decide +kernel
theorem tX12_melts_135 {d : Nat} {l1 l2 l3 : Option Value} {x : Nat} {m : jmM} {Q : Option Value → jmM → Prop} : AW d 243 135 [some (.ref x), l1, l2, l3] [] m Q ↔ AW d 243 136 [some (.ref x), l1, l2, l3] [.ref x] m Q := A_aload_n hB_X12_melts dX12_melts_135 rfl
theorem dX12_melts_136 : decode cX12_melts 136 = .ok (.getfield 51, 3) := by decide +kernel
theorem tX12_melts_136 {d : Nat} {l0 l1 l2 l3 : Option Value} {a : Nat} {m : jmM} {Q : Option Value → jmM → Prop} : AW d 243 136 [l0, l1, l2, l3] [.ref a] m Q ↔ (mS m a).1 = 12 ∧ AW d 243 139 [l0, l1, l2, l3] [va_rf (mR m a 25)] m Q := A_getfield (f := fun m a => va_rf (mR m a 25)) hB_X12_melts dX12_melts_136 hO_X12_melts fF_12_51 rfl
theorem dX12_melts_139 : decode cX12_melts 139 = .ok (.bipush 12, 2) := by decide +kernel
theorem tX12_melts_139 {d : Nat} {l0 l1 l2 l3 : Option Value} {v0 : Value} {m : jmM} {Q : Option Value → jmM → Prop} : AW d 243 139 [l0, l1, l2, l3] [v0] m Q ↔ AW d 243 141 [l0, l1, l2, l3] [.int 12, v0] m Q := A_bipush hB_X12_melts dX12_melts_139 rfl
theorem dX12_melts_141 : decode cX12_melts 141 = .ok (.iload_n 1, 1) := by decide +kernel
theorem tX12_melts_141 {d : Nat} {l0 l2 l3 : Option Value} {v0 v1 : Value} {x : Int32} {m : jmM} {Q : Option Value → jmM → Prop} : AW d 243 141 [l0, some (.int x), l2, l3] [v0, v1] m Q ↔ AW d 243 142 [l0, some (.int x), l2, l3] [.int x, v0, v1] m Q := A_iload_n hB_X12_melts dX12_melts_141 rfl
theorem dX12_melts_142 : decode cX12_melts 142 = .ok (.ifCond .ne 7, 3) := by decide +kernel
theorem tX12_melts_142 {d : Nat} {l0 l1 l2 l3 : Option Value} {v1 v2 : Value} {x : Int32} {m : jmM} {Q : Option Value → jmM → Prop} : AW d 243 142 [l0, l1, l2, l3] [.int x, v1, v2] m Q ↔ if x = 0 then AW d 243 145 [l0, l1, l2, l3] [v1, v2] m Q else AW d 243 149 [l0, l1, l2, l3] [v1, v2] m Q := A_if_ne hB_X12_melts dX12_melts_142 (by decide)
theorem dX12_melts_145 : decode cX12_melts 145 = .ok (.iconst 0, 1) := by decide +kernel
theorem tX12_melts_145 {d : Nat} {l0 l1 l2 l3 : Option Value} {v0 v1 : Value} {m : jmM} {Q : Option Value → jmM → Prop} : AW d 243 145 [l0, l1, l2, l3] [v0, v1] m Q ↔ AW d 243 146 [l0, l1, l2, l3] [.int 0, v0, v1] m Q := A_iconst hB_X12_melts dX12_melts_145 (by decide)
theorem dX12_melts_146 : decode cX12_melts 146 = .ok (.goto 11, 3) := by decide +kernel
theorem tX12_melts_146 {d : Nat} {l0 l1 l2 l3 : Option Value} {v0 v1 v2 : Value} {m : jmM} {Q : Option Value → jmM → Prop} : AW d 243 146 [l0, l1, l2, l3] [v0, v1, v2] m Q ↔ AW d 243 157 [l0, l1, l2, l3] [v0, v1, v2] m Q := A_goto hB_X12_melts dX12_melts_146 (by decide)
theorem dX12_melts_149 : decode cX12_melts 149 = .ok (.aload_n 0, 1) := by decide +kernel
theorem tX12_melts_149 {d : Nat} {l1 l2 l3 : Option Value} {v0 v1 : Value} {x : Nat} {m : jmM} {Q : Option Value → jmM → Prop} : AW d 243 149 [some (.ref x), l1, l2, l3] [v0, v1] m Q ↔ AW d 243 150 [some (.ref x), l1, l2, l3] [.ref x, v0, v1] m Q := A_aload_n hB_X12_melts dX12_melts_149 rfl
theorem dX12_melts_150 : decode cX12_melts 150 = .ok (.iload_n 1, 1) := by decide +kernel
theorem tX12_melts_150 {d : Nat} {l0 l2 l3 : Option Value} {v0 v1 v2 : Value} {x : Int32} {m : jmM} {Q : Option Value → jmM → Prop} : AW d 243 150 [l0, some (.int x), l2, l3] [v0, v1, v2] m Q ↔ AW d 243 151 [l0, some (.int x), l2, l3] [.int x, v0, v1, v2] m Q := A_iload_n hB_X12_melts dX12_melts_150 rfl
theorem dX12_melts_151 : decode cX12_melts 151 = .ok (.iconst 1, 1) := by decide +kernel
theorem tX12_melts_151 {d : Nat} {l0 l1 l2 l3 : Option Value} {v0 v1 v2 v3 : Value} {m : jmM} {Q : Option Value → jmM → Prop} : AW d 243 151 [l0, l1, l2, l3] [v0, v1, v2, v3] m Q ↔ AW d 243 152 [l0, l1, l2, l3] [.int 1, v0, v1, v2, v3] m Q := A_iconst hB_X12_melts dX12_melts_151 (by decide)
theorem dX12_melts_152 : decode cX12_melts 152 = .ok (.isub, 1) := by decide +kernel
theorem tX12_melts_152 {d : Nat} {l0 l1 l2 l3 : Option Value} {v2 v3 v4 : Value} {x y : Int32} {m : jmM} {Q : Option Value → jmM → Prop} : AW d 243 152 [l0, l1, l2, l3] [.int y, .int x, v2, v3, v4] m Q ↔ AW d 243 153 [l0, l1, l2, l3] [.int (x - y), v2, v3, v4] m Q := A_isub hB_X12_melts dX12_melts_152
theorem dX12_melts_153 : decode cX12_melts 153 = .ok (.iconst 2, 1) := by decide +kernel
theorem tX12_melts_153 {d : Nat} {l0 l1 l2 l3 : Option Value} {v0 v1 v2 v3 : Value} {m : jmM} {Q : Option Value → jmM → Prop} : AW d 243 153 [l0, l1, l2, l3] [v0, v1, v2, v3] m Q ↔ AW d 243 154 [l0, l1, l2, l3] [.int 2, v0, v1, v2, v3] m Q := A_iconst hB_X12_melts dX12_melts_153 (by decide)
theorem dX12_melts_154 : decode cX12_melts 154 = .ok (.invokevirtual 297, 3) := by decide +kernel
theorem tX12_melts_154 {d : Nat} {l0 l1 l2 l3 : Option Value} {v3 v4 : Value} {y0 y1 : Value} {a : Nat} {m : jmM} {Q : Option Value → jmM → Prop} : AW d 243 154 [l0, l1, l2, l3] [y0, y1, .ref a, v3, v4] m Q ↔ (mS m a).1 = 12 ∧ CC d 229 [.ref a, y1, y0] m (jK d 243 157 [l0, l1, l2, l3] [v3, v4] Q) := A_callV hB_X12_melts dX12_melts_154 hO_X12_melts fS_12_297 ⟨Nat.le_of_ble_eq_true rfl, Nat.le_of_ble_eq_true rfl⟩ rfl rfl rfl
theorem dX12_melts_157 : decode cX12_melts 157 = .ok (.iastore, 1) := by decide +kernel
theorem tX12_melts_157 {d : Nat} {l0 l1 l2 l3 : Option Value} {x i : Int32} {a : Nat} {m : jmM} {Q : Option Value → jmM → Prop} : AW d 243 157 [l0, l1, l2, l3] [.int x, .int i, .ref a] m Q ↔ ((mS m a).1 = 20 ∧ jIx i (mS m a).2) ∧ AW d 243 158 [l0, l1, l2, l3] [] (cI m a (jup (mI m a) (jx i) x)) Q := A_iastore hB_X12_melts dX12_melts_157
theorem dX12_melts_158 : decode cX12_melts 158 = .ok (.aload_n 0, 1) := by decide +kernel
theorem tX12_melts_158 {d : Nat} {l1 l2 l3 : Option Value} {x : Nat} {m : jmM} {Q : Option Value → jmM → Prop} : AW d 243 158 [some (.ref x), l1, l2, l3] [] m Q ↔ AW d 243 159 [some (.ref x), l1, l2, l3] [.ref x] m Q := A_aload_n hB_X12_melts dX12_melts_158 rfl
theorem dX12_melts_159 : decode cX12_melts 159 = .ok (.getfield 51, 3) := by decide +kernel
theorem tX12_melts_159 {d : Nat} {l0 l1 l2 l3 : Option Value} {a : Nat} {m : jmM} {Q : Option Value → jmM → Prop} : AW d 243 159 [l0, l1, l2, l3] [.ref a] m Q ↔ (mS m a).1 = 12 ∧ AW d 243 162 [l0, l1, l2, l3] [va_rf (mR m a 25)] m Q := A_getfield (f := fun m a => va_rf (mR m a 25)) hB_X12_melts dX12_melts_159 hO_X12_melts fF_12_51 rfl
theorem dX12_melts_162 : decode cX12_melts 162 = .ok (.iconst 0, 1) := by decide +kernel
theorem tX12_melts_162 {d : Nat} {l0 l1 l2 l3 : Option Value} {v0 : Value} {m : jmM} {Q : Option Value → jmM → Prop} : AW d 243 162 [l0, l1, l2, l3] [v0] m Q ↔ AW d 243 163 [l0, l1, l2, l3] [.int 0, v0] m Q := A_iconst hB_X12_melts dX12_melts_162 (by decide)
theorem dX12_melts_163 : decode cX12_melts 163 = .ok (.aload_n 0, 1) := by decide +kernel
theorem tX12_melts_163 {d : Nat} {l1 l2 l3 : Option Value} {v0 v1 : Value} {x : Nat} {m : jmM} {Q : Option Value → jmM → Prop} : AW d 243 163 [some (.ref x), l1, l2, l3] [v0, v1] m Q ↔ AW d 243 164 [some (.ref x), l1, l2, l3] [.ref x, v0, v1] m Q := A_aload_n hB_X12_melts dX12_melts_163 rfl
theorem dX12_melts_164 : decode cX12_melts 164 = .ok (.getfield 51, 3) := by decide +kernel
theorem tX12_melts_164 {d : Nat} {l0 l1 l2 l3 : Option Value} {v1 v2 : Value} {a : Nat} {m : jmM} {Q : Option Value → jmM → Prop} : AW d 243 164 [l0, l1, l2, l3] [.ref a, v1, v2] m Q ↔ (mS m a).1 = 12 ∧ AW d 243 167 [l0, l1, l2, l3] [va_rf (mR m a 25), v1, v2] m Q := A_getfield (f := fun m a => va_rf (mR m a 25)) hB_X12_melts dX12_melts_164 hO_X12_melts fF_12_51 rfl
theorem dX12_melts_167 : decode cX12_melts 167 = .ok (.bipush 14, 2) := by decide +kernel
theorem tX12_melts_167 {d : Nat} {l0 l1 l2 l3 : Option Value} {v0 v1 v2 : Value} {m : jmM} {Q : Option Value → jmM → Prop} : AW d 243 167 [l0, l1, l2, l3] [v0, v1, v2] m Q ↔ AW d 243 169 [l0, l1, l2, l3] [.int 14, v0, v1, v2] m Q := A_bipush hB_X12_melts dX12_melts_167 rfl
theorem dX12_melts_169 : decode cX12_melts 169 = .ok (.iaload, 1) := by decide +kernel
theorem tX12_melts_169 {d : Nat} {l0 l1 l2 l3 : Option Value} {v2 v3 : Value} {i : Int32} {a : Nat} {m : jmM} {Q : Option Value → jmM → Prop} : AW d 243 169 [l0, l1, l2, l3] [.int i, .ref a, v2, v3] m Q ↔ (((mS m a).1 = 20 ∨ a = jScr) ∧ jIx i (mS m a).2) ∧ AW d 243 170 [l0, l1, l2, l3] [.int (mI m a (jx i)), v2, v3] m Q := A_iaload hB_X12_melts dX12_melts_169
theorem dX12_melts_170 : decode cX12_melts 170 = .ok (.aload_n 0, 1) := by decide +kernel
theorem tX12_melts_170 {d : Nat} {l1 l2 l3 : Option Value} {v0 v1 v2 : Value} {x : Nat} {m : jmM} {Q : Option Value → jmM → Prop} : AW d 243 170 [some (.ref x), l1, l2, l3] [v0, v1, v2] m Q ↔ AW d 243 171 [some (.ref x), l1, l2, l3] [.ref x, v0, v1, v2] m Q := A_aload_n hB_X12_melts dX12_melts_170 rfl
theorem dX12_melts_171 : decode cX12_melts 171 = .ok (.getfield 51, 3) := by decide +kernel
theorem tX12_melts_171 {d : Nat} {l0 l1 l2 l3 : Option Value} {v1 v2 v3 : Value} {a : Nat} {m : jmM} {Q : Option Value → jmM → Prop} : AW d 243 171 [l0, l1, l2, l3] [.ref a, v1, v2, v3] m Q ↔ (mS m a).1 = 12 ∧ AW d 243 174 [l0, l1, l2, l3] [va_rf (mR m a 25), v1, v2, v3] m Q := A_getfield (f := fun m a => va_rf (mR m a 25)) hB_X12_melts dX12_melts_171 hO_X12_melts fF_12_51 rfl
theorem dX12_melts_174 : decode cX12_melts 174 = .ok (.bipush 7, 2) := by decide +kernel
theorem tX12_melts_174 {d : Nat} {l0 l1 l2 l3 : Option Value} {v0 v1 v2 v3 : Value} {m : jmM} {Q : Option Value → jmM → Prop} : AW d 243 174 [l0, l1, l2, l3] [v0, v1, v2, v3] m Q ↔ AW d 243 176 [l0, l1, l2, l3] [.int 7, v0, v1, v2, v3] m Q := A_bipush hB_X12_melts dX12_melts_174 rfl
theorem dX12_melts_176 : decode cX12_melts 176 = .ok (.iaload, 1) := by decide +kernel
theorem tX12_melts_176 {d : Nat} {l0 l1 l2 l3 : Option Value} {v2 v3 v4 : Value} {i : Int32} {a : Nat} {m : jmM} {Q : Option Value → jmM → Prop} : AW d 243 176 [l0, l1, l2, l3] [.int i, .ref a, v2, v3, v4] m Q ↔ (((mS m a).1 = 20 ∨ a = jScr) ∧ jIx i (mS m a).2) ∧ AW d 243 177 [l0, l1, l2, l3] [.int (mI m a (jx i)), v2, v3, v4] m Q := A_iaload hB_X12_melts dX12_melts_176
theorem dX12_melts_177 : decode cX12_melts 177 = .ok (.if_icmp .lt 7, 3) := by decide +kernel
theorem tX12_melts_177 {d : Nat} {l0 l1 l2 l3 : Option Value} {v2 v3 : Value} {x y : Int32} {m : jmM} {Q : Option Value → jmM → Prop} : AW d 243 177 [l0, l1, l2, l3] [.int y, .int x, v2, v3] m Q ↔ if x < y then AW d 243 184 [l0, l1, l2, l3] [v2, v3] m Q else AW d 243 180 [l0, l1, l2, l3] [v2, v3] m Q := A_icmp_lt hB_X12_melts dX12_melts_177 (by decide)
theorem dX12_melts_180 : decode cX12_melts 180 = .ok (.iconst 5, 1) := by decide +kernel
theorem tX12_melts_180 {d : Nat} {l0 l1 l2 l3 : Option Value} {v0 v1 : Value} {m : jmM} {Q : Option Value → jmM → Prop} : AW d 243 180 [l0, l1, l2, l3] [v0, v1] m Q ↔ AW d 243 181 [l0, l1, l2, l3] [.int 5, v0, v1] m Q := A_iconst hB_X12_melts dX12_melts_180 (by decide)
theorem dX12_melts_181 : decode cX12_melts 181 = .ok (.goto 4, 3) := by decide +kernel
theorem tX12_melts_181 {d : Nat} {l0 l1 l2 l3 : Option Value} {v0 v1 v2 : Value} {m : jmM} {Q : Option Value → jmM → Prop} : AW d 243 181 [l0, l1, l2, l3] [v0, v1, v2] m Q ↔ AW d 243 185 [l0, l1, l2, l3] [v0, v1, v2] m Q := A_goto hB_X12_melts dX12_melts_181 (by decide)
theorem dX12_melts_184 : decode cX12_melts 184 = .ok (.iconst 1, 1) := by decide +kernel
theorem tX12_melts_184 {d : Nat} {l0 l1 l2 l3 : Option Value} {v0 v1 : Value} {m : jmM} {Q : Option Value → jmM → Prop} : AW d 243 184 [l0, l1, l2, l3] [v0, v1] m Q ↔ AW d 243 185 [l0, l1, l2, l3] [.int 1, v0, v1] m Q := A_iconst hB_X12_melts dX12_melts_184 (by decide)
theorem dX12_melts_185 : decode cX12_melts 185 = .ok (.iastore, 1) := by decide +kernel
theorem tX12_melts_185 {d : Nat} {l0 l1 l2 l3 : Option Value} {x i : Int32} {a : Nat} {m : jmM} {Q : Option Value → jmM → Prop} : AW d 243 185 [l0, l1, l2, l3] [.int x, .int i, .ref a] m Q ↔ ((mS m a).1 = 20 ∧ jIx i (mS m a).2) ∧ AW d 243 186 [l0, l1, l2, l3] [] (cI m a (jup (mI m a) (jx i) x)) Q := A_iastore hB_X12_melts dX12_melts_185
theorem dX12_melts_186 : decode cX12_melts 186 = .ok (.return_, 1) := by decide +kernel
theorem tX12_melts_186 {d : Nat} {l0 l1 l2 l3 : Option Value} {m : jmM} {Q : Option Value → jmM → Prop} : AW d 243 186 [l0, l1, l2, l3] [] m Q ↔ Q none m := A_return hB_X12_melts dX12_melts_186 hR_X12_melts
theorem hB_X12_melt : jB 244 = cX12_melt := rfl
theorem hO_X12_melt : jO 244 = 12 := rfl
theorem hR_X12_melt : jRt 244 = (some .int) := rfl
theorem nX12_melt (d : Nat) (x0 : Nat) (x1 : Int32) (m : jmM) (Q : Option Value → jmM → Prop) : CC (d + 1) 244 [.ref x0, .int x1] m Q ↔ AW d 244 0 [some (.ref x0), some (.int x1), none] [] m Q := CC_body (Nat.le_of_ble_eq_true rfl)
theorem dX12_melt_0 : decode cX12_melt 0 = .ok (.aload_n 0, 1) := by decide +kernel
theorem tX12_melt_0 {d : Nat} {l1 l2 : Option Value} {x : Nat} {m : jmM} {Q : Option Value → jmM → Prop} : AW d 244 0 [some (.ref x), l1, l2] [] m Q ↔ AW d 244 1 [some (.ref x), l1, l2] [.ref x] m Q := A_aload_n hB_X12_melt dX12_melt_0 rfl
theorem dX12_melt_1 : decode cX12_melt 1 = .ok (.iload_n 1, 1) := by decide +kernel
theorem tX12_melt_1 {d : Nat} {l0 l2 : Option Value} {v0 : Value} {x : Int32} {m : jmM} {Q : Option Value → jmM → Prop} : AW d 244 1 [l0, some (.int x), l2] [v0] m Q ↔ AW d 244 2 [l0, some (.int x), l2] [.int x, v0] m Q := A_iload_n hB_X12_melt dX12_melt_1 rfl
theorem dX12_melt_2 : decode cX12_melt 2 = .ok (.invokevirtual 358, 3) := by decide +kernel
theorem tX12_melt_2 {d : Nat} {l0 l1 l2 : Option Value} {y0 : Value} {a : Nat} {m : jmM} {Q : Option Value → jmM → Prop} : AW d 244 2 [l0, l1, l2] [y0, .ref a] m Q ↔ (mS m a).1 = 12 ∧ CC d 230 [.ref a, y0] m (jK d 244 5 [l0, l1, l2] [] Q) := A_callV hB_X12_melt dX12_melt_2 hO_X12_melt fS_12_358 ⟨Nat.le_of_ble_eq_true rfl, Nat.le_of_ble_eq_true rfl⟩ rfl rfl rfl
theorem dX12_melt_5 : decode cX12_melt 5 = .ok (.ifCond .ne 5, 3) := by decide +kernel
theorem tX12_melt_5 {d : Nat} {l0 l1 l2 : Option Value} {x : Int32} {m : jmM} {Q : Option Value → jmM → Prop} : AW d 244 5 [l0, l1, l2] [.int x] m Q ↔ if x = 0 then AW d 244 8 [l0, l1, l2] [] m Q else AW d 244 10 [l0, l1, l2] [] m Q := A_if_ne hB_X12_melt dX12_melt_5 (by decide)
theorem dX12_melt_8 : decode cX12_melt 8 = .ok (.iconst (-1), 1) := by decide +kernel
theorem tX12_melt_8 {d : Nat} {l0 l1 l2 : Option Value} {m : jmM} {Q : Option Value → jmM → Prop} : AW d 244 8 [l0, l1, l2] [] m Q ↔ AW d 244 9 [l0, l1, l2] [.int (-1)] m Q := A_iconst hB_X12_melt dX12_melt_8 (by decide)
theorem dX12_melt_9 : decode cX12_melt 9 = .ok (.ireturn, 1) := by decide +kernel
theorem tX12_melt_9 {d : Nat} {l0 l1 l2 : Option Value} {x : Int32} {m : jmM} {Q : Option Value → jmM → Prop} : AW d 244 9 [l0, l1, l2] [.int x] m Q ↔ Q (some (.int x)) m := A_ireturn hB_X12_melt dX12_melt_9 hR_X12_melt
theorem dX12_melt_10 : decode cX12_melt 10 = .ok (.aload_n 0, 1) := by decide +kernel
theorem tX12_melt_10 {d : Nat} {l1 l2 : Option Value} {x : Nat} {m : jmM} {Q : Option Value → jmM → Prop} : AW d 244 10 [some (.ref x), l1, l2] [] m Q ↔ AW d 244 11 [some (.ref x), l1, l2] [.ref x] m Q := A_aload_n hB_X12_melt dX12_melt_10 rfl
theorem dX12_melt_11 : decode cX12_melt 11 = .ok (.getfield 51, 3) := by decide +kernel
theorem tX12_melt_11 {d : Nat} {l0 l1 l2 : Option Value} {a : Nat} {m : jmM} {Q : Option Value → jmM → Prop} : AW d 244 11 [l0, l1, l2] [.ref a] m Q ↔ (mS m a).1 = 12 ∧ AW d 244 14 [l0, l1, l2] [va_rf (mR m a 25)] m Q := A_getfield (f := fun m a => va_rf (mR m a 25)) hB_X12_melt dX12_melt_11 hO_X12_melt fF_12_51 rfl
theorem dX12_melt_14 : decode cX12_melt 14 = .ok (.bipush 15, 2) := by decide +kernel
theorem tX12_melt_14 {d : Nat} {l0 l1 l2 : Option Value} {v0 : Value} {m : jmM} {Q : Option Value → jmM → Prop} : AW d 244 14 [l0, l1, l2] [v0] m Q ↔ AW d 244 16 [l0, l1, l2] [.int 15, v0] m Q := A_bipush hB_X12_melt dX12_melt_14 rfl
theorem dX12_melt_16 : decode cX12_melt 16 = .ok (.iaload, 1) := by decide +kernel
theorem tX12_melt_16 {d : Nat} {l0 l1 l2 : Option Value} {i : Int32} {a : Nat} {m : jmM} {Q : Option Value → jmM → Prop} : AW d 244 16 [l0, l1, l2] [.int i, .ref a] m Q ↔ (((mS m a).1 = 20 ∨ a = jScr) ∧ jIx i (mS m a).2) ∧ AW d 244 17 [l0, l1, l2] [.int (mI m a (jx i))] m Q := A_iaload hB_X12_melt dX12_melt_16
theorem dX12_melt_17 : decode cX12_melt 17 = .ok (.iload_n 1, 1) := by decide +kernel
theorem tX12_melt_17 {d : Nat} {l0 l2 : Option Value} {v0 : Value} {x : Int32} {m : jmM} {Q : Option Value → jmM → Prop} : AW d 244 17 [l0, some (.int x), l2] [v0] m Q ↔ AW d 244 18 [l0, some (.int x), l2] [.int x, v0] m Q := A_iload_n hB_X12_melt dX12_melt_17 rfl
theorem dX12_melt_18 : decode cX12_melt 18 = .ok (.isub, 1) := by decide +kernel
theorem tX12_melt_18 {d : Nat} {l0 l1 l2 : Option Value} {x y : Int32} {m : jmM} {Q : Option Value → jmM → Prop} : AW d 244 18 [l0, l1, l2] [.int y, .int x] m Q ↔ AW d 244 19 [l0, l1, l2] [.int (x - y)] m Q := A_isub hB_X12_melt dX12_melt_18
theorem dX12_melt_19 : decode cX12_melt 19 = .ok (.istore_n 2, 1) := by decide +kernel
theorem tX12_melt_19 {d : Nat} {l0 l1 l2 : Option Value} {x : Int32} {m : jmM} {Q : Option Value → jmM → Prop} : AW d 244 19 [l0, l1, l2] [.int x] m Q ↔ AW d 244 20 [l0, jc1 l1, some (.int x)] [] m Q := A_istore_n hB_X12_melt dX12_melt_19 (Nat.le_of_ble_eq_true rfl) rfl
theorem dX12_melt_20 : decode cX12_melt 20 = .ok (.aload_n 0, 1) := by decide +kernel
theorem tX12_melt_20 {d : Nat} {l1 l2 : Option Value} {x : Nat} {m : jmM} {Q : Option Value → jmM → Prop} : AW d 244 20 [some (.ref x), l1, l2] [] m Q ↔ AW d 244 21 [some (.ref x), l1, l2] [.ref x] m Q := A_aload_n hB_X12_melt dX12_melt_20 rfl
theorem dX12_melt_21 : decode cX12_melt 21 = .ok (.iload_n 1, 1) := by decide +kernel
theorem tX12_melt_21 {d : Nat} {l0 l2 : Option Value} {v0 : Value} {x : Int32} {m : jmM} {Q : Option Value → jmM → Prop} : AW d 244 21 [l0, some (.int x), l2] [v0] m Q ↔ AW d 244 22 [l0, some (.int x), l2] [.int x, v0] m Q := A_iload_n hB_X12_melt dX12_melt_21 rfl
theorem dX12_melt_22 : decode cX12_melt 22 = .ok (.invokevirtual 361, 3) := by decide +kernel
theorem tX12_melt_22 {d : Nat} {l0 l1 l2 : Option Value} {y0 : Value} {a : Nat} {m : jmM} {Q : Option Value → jmM → Prop} : AW d 244 22 [l0, l1, l2] [y0, .ref a] m Q ↔ (mS m a).1 = 12 ∧ CC d 243 [.ref a, y0] m (jK d 244 25 [l0, l1, l2] [] Q) := A_callV hB_X12_melt dX12_melt_22 hO_X12_melt fS_12_361 ⟨Nat.le_of_ble_eq_true rfl, Nat.le_of_ble_eq_true rfl⟩ rfl rfl rfl
theorem dX12_melt_25 : decode cX12_melt 25 = .ok (.iload_n 2, 1) := by decide +kernel
theorem tX12_melt_25 {d : Nat} {l0 l1 : Option Value} {x : Int32} {m : jmM} {Q : Option Value → jmM → Prop} : AW d 244 25 [l0, l1, some (.int x)] [] m Q ↔ AW d 244 26 [l0, l1, some (.int x)] [.int x] m Q := A_iload_n hB_X12_melt dX12_melt_25 rfl
theorem dX12_melt_26 : decode cX12_melt 26 = .ok (.ireturn, 1) := by decide +kernel
theorem tX12_melt_26 {d : Nat} {l0 l1 l2 : Option Value} {x : Int32} {m : jmM} {Q : Option Value → jmM → Prop} : AW d 244 26 [l0, l1, l2] [.int x] m Q ↔ Q (some (.int x)) m := A_ireturn hB_X12_melt dX12_melt_26 hR_X12_melt
theorem hB_X12_fault : jB 245 = cX12_fault := rfl
theorem hO_X12_fault : jO 245 = 12 := rfl
theorem hR_X12_fault : jRt 245 = (some .boolean) := rfl
theorem nX12_fault (d : Nat) (x0 : Nat) (x1 : Int32) (m : jmM) (Q : Option Value → jmM → Prop) : CC (d + 1) 245 [.ref x0, .int x1] m Q ↔ AW d 245 0 [some (.ref x0), some (.int x1)] [] m Q := CC_body (Nat.le_of_ble_eq_true rfl)
theorem dX12_fault_0 : decode cX12_fault 0 = .ok (.aload_n 0, 1) := by decide +kernel
theorem tX12_fault_0 {d : Nat} {l1 : Option Value} {x : Nat} {m : jmM} {Q : Option Value → jmM → Prop} : AW d 245 0 [some (.ref x), l1] [] m Q ↔ AW d 245 1 [some (.ref x), l1] [.ref x] m Q := A_aload_n hB_X12_fault dX12_fault_0 rfl
theorem dX12_fault_1 : decode cX12_fault 1 = .ok (.iload_n 1, 1) := by decide +kernel
theorem tX12_fault_1 {d : Nat} {l0 : Option Value} {v0 : Value} {x : Int32} {m : jmM} {Q : Option Value → jmM → Prop} : AW d 245 1 [l0, some (.int x)] [v0] m Q ↔ AW d 245 2 [l0, some (.int x)] [.int x, v0] m Q := A_iload_n hB_X12_fault dX12_fault_1 rfl
theorem dX12_fault_2 : decode cX12_fault 2 = .ok (.invokevirtual 358, 3) := by decide +kernel
theorem tX12_fault_2 {d : Nat} {l0 l1 : Option Value} {y0 : Value} {a : Nat} {m : jmM} {Q : Option Value → jmM → Prop} : AW d 245 2 [l0, l1] [y0, .ref a] m Q ↔ (mS m a).1 = 12 ∧ CC d 230 [.ref a, y0] m (jK d 245 5 [l0, l1] [] Q) := A_callV hB_X12_fault dX12_fault_2 hO_X12_fault fS_12_358 ⟨Nat.le_of_ble_eq_true rfl, Nat.le_of_ble_eq_true rfl⟩ rfl rfl rfl
theorem dX12_fault_5 : decode cX12_fault 5 = .ok (.ifCond .eq 13, 3) := by decide +kernel
theorem tX12_fault_5 {d : Nat} {l0 l1 : Option Value} {x : Int32} {m : jmM} {Q : Option Value → jmM → Prop} : AW d 245 5 [l0, l1] [.int x] m Q ↔ if x = 0 then AW d 245 18 [l0, l1] [] m Q else AW d 245 8 [l0, l1] [] m Q := A_if_eq hB_X12_fault dX12_fault_5 (by decide)
theorem dX12_fault_8 : decode cX12_fault 8 = .ok (.aload_n 0, 1) := by decide +kernel
theorem tX12_fault_8 {d : Nat} {l1 : Option Value} {x : Nat} {m : jmM} {Q : Option Value → jmM → Prop} : AW d 245 8 [some (.ref x), l1] [] m Q ↔ AW d 245 9 [some (.ref x), l1] [.ref x] m Q := A_aload_n hB_X12_fault dX12_fault_8 rfl
theorem dX12_fault_9 : decode cX12_fault 9 = .ok (.iload_n 1, 1) := by decide +kernel
theorem tX12_fault_9 {d : Nat} {l0 : Option Value} {v0 : Value} {x : Int32} {m : jmM} {Q : Option Value → jmM → Prop} : AW d 245 9 [l0, some (.int x)] [v0] m Q ↔ AW d 245 10 [l0, some (.int x)] [.int x, v0] m Q := A_iload_n hB_X12_fault dX12_fault_9 rfl
theorem dX12_fault_10 : decode cX12_fault 10 = .ok (.iconst 5, 1) := by decide +kernel
theorem tX12_fault_10 {d : Nat} {l0 l1 : Option Value} {v0 v1 : Value} {m : jmM} {Q : Option Value → jmM → Prop} : AW d 245 10 [l0, l1] [v0, v1] m Q ↔ AW d 245 11 [l0, l1] [.int 5, v0, v1] m Q := A_iconst hB_X12_fault dX12_fault_10 (by decide)
theorem dX12_fault_11 : decode cX12_fault 11 = .ok (.invokevirtual 297, 3) := by decide +kernel
theorem tX12_fault_11 {d : Nat} {l0 l1 : Option Value} {y0 y1 : Value} {a : Nat} {m : jmM} {Q : Option Value → jmM → Prop} : AW d 245 11 [l0, l1] [y0, y1, .ref a] m Q ↔ (mS m a).1 = 12 ∧ CC d 229 [.ref a, y1, y0] m (jK d 245 14 [l0, l1] [] Q) := A_callV hB_X12_fault dX12_fault_11 hO_X12_fault fS_12_297 ⟨Nat.le_of_ble_eq_true rfl, Nat.le_of_ble_eq_true rfl⟩ rfl rfl rfl
theorem dX12_fault_14 : decode cX12_fault 14 = .ok (.iconst 1, 1) := by decide +kernel
theorem tX12_fault_14 {d : Nat} {l0 l1 : Option Value} {v0 : Value} {m : jmM} {Q : Option Value → jmM → Prop} : AW d 245 14 [l0, l1] [v0] m Q ↔ AW d 245 15 [l0, l1] [.int 1, v0] m Q := A_iconst hB_X12_fault dX12_fault_14 (by decide)
theorem dX12_fault_15 : decode cX12_fault 15 = .ok (.if_icmp .ne 5, 3) := by decide +kernel
theorem tX12_fault_15 {d : Nat} {l0 l1 : Option Value} {x y : Int32} {m : jmM} {Q : Option Value → jmM → Prop} : AW d 245 15 [l0, l1] [.int y, .int x] m Q ↔ if x = y then AW d 245 18 [l0, l1] [] m Q else AW d 245 20 [l0, l1] [] m Q := A_icmp_ne hB_X12_fault dX12_fault_15 (by decide)
theorem dX12_fault_18 : decode cX12_fault 18 = .ok (.iconst 0, 1) := by decide +kernel
theorem tX12_fault_18 {d : Nat} {l0 l1 : Option Value} {m : jmM} {Q : Option Value → jmM → Prop} : AW d 245 18 [l0, l1] [] m Q ↔ AW d 245 19 [l0, l1] [.int 0] m Q := A_iconst hB_X12_fault dX12_fault_18 (by decide)
theorem dX12_fault_19 : decode cX12_fault 19 = .ok (.ireturn, 1) := by decide +kernel
theorem tX12_fault_19 {d : Nat} {l0 l1 : Option Value} {x : Int32} {m : jmM} {Q : Option Value → jmM → Prop} : AW d 245 19 [l0, l1] [.int x] m Q ↔ jBool x ∧ Q (some (.int x)) m := A_zreturn hB_X12_fault dX12_fault_19 hR_X12_fault
theorem dX12_fault_20 : decode cX12_fault 20 = .ok (.aload_n 0, 1) := by decide +kernel
theorem tX12_fault_20 {d : Nat} {l1 : Option Value} {x : Nat} {m : jmM} {Q : Option Value → jmM → Prop} : AW d 245 20 [some (.ref x), l1] [] m Q ↔ AW d 245 21 [some (.ref x), l1] [.ref x] m Q := A_aload_n hB_X12_fault dX12_fault_20 rfl
theorem dX12_fault_21 : decode cX12_fault 21 = .ok (.getfield 63, 3) := by decide +kernel
theorem tX12_fault_21 {d : Nat} {l0 l1 : Option Value} {a : Nat} {m : jmM} {Q : Option Value → jmM → Prop} : AW d 245 21 [l0, l1] [.ref a] m Q ↔ (mS m a).1 = 12 ∧ AW d 245 24 [l0, l1] [va_rf (mR m a 29)] m Q := A_getfield (f := fun m a => va_rf (mR m a 29)) hB_X12_fault dX12_fault_21 hO_X12_fault fF_12_63 rfl
theorem dX12_fault_24 : decode cX12_fault 24 = .ok (.bipush 6, 2) := by decide +kernel
theorem tX12_fault_24 {d : Nat} {l0 l1 : Option Value} {v0 : Value} {m : jmM} {Q : Option Value → jmM → Prop} : AW d 245 24 [l0, l1] [v0] m Q ↔ AW d 245 26 [l0, l1] [.int 6, v0] m Q := A_bipush hB_X12_fault dX12_fault_24 rfl
theorem dX12_fault_26 : decode cX12_fault 26 = .ok (.iload_n 1, 1) := by decide +kernel
theorem tX12_fault_26 {d : Nat} {l0 : Option Value} {v0 v1 : Value} {x : Int32} {m : jmM} {Q : Option Value → jmM → Prop} : AW d 245 26 [l0, some (.int x)] [v0, v1] m Q ↔ AW d 245 27 [l0, some (.int x)] [.int x, v0, v1] m Q := A_iload_n hB_X12_fault dX12_fault_26 rfl
theorem dX12_fault_27 : decode cX12_fault 27 = .ok (.imul, 1) := by decide +kernel
theorem tX12_fault_27 {d : Nat} {l0 l1 : Option Value} {v2 : Value} {x y : Int32} {m : jmM} {Q : Option Value → jmM → Prop} : AW d 245 27 [l0, l1] [.int y, .int x, v2] m Q ↔ AW d 245 28 [l0, l1] [.int (x * y), v2] m Q := A_imul hB_X12_fault dX12_fault_27
theorem dX12_fault_28 : decode cX12_fault 28 = .ok (.iconst 5, 1) := by decide +kernel
theorem tX12_fault_28 {d : Nat} {l0 l1 : Option Value} {v0 v1 : Value} {m : jmM} {Q : Option Value → jmM → Prop} : AW d 245 28 [l0, l1] [v0, v1] m Q ↔ AW d 245 29 [l0, l1] [.int 5, v0, v1] m Q := A_iconst hB_X12_fault dX12_fault_28 (by decide)
theorem dX12_fault_29 : decode cX12_fault 29 = .ok (.iadd, 1) := by decide +kernel
theorem tX12_fault_29 {d : Nat} {l0 l1 : Option Value} {v2 : Value} {x y : Int32} {m : jmM} {Q : Option Value → jmM → Prop} : AW d 245 29 [l0, l1] [.int y, .int x, v2] m Q ↔ AW d 245 30 [l0, l1] [.int (x + y), v2] m Q := A_iadd hB_X12_fault dX12_fault_29
theorem dX12_fault_30 : decode cX12_fault 30 = .ok (.iconst 1, 1) := by decide +kernel
theorem tX12_fault_30 {d : Nat} {l0 l1 : Option Value} {v0 v1 : Value} {m : jmM} {Q : Option Value → jmM → Prop} : AW d 245 30 [l0, l1] [v0, v1] m Q ↔ AW d 245 31 [l0, l1] [.int 1, v0, v1] m Q := A_iconst hB_X12_fault dX12_fault_30 (by decide)
theorem dX12_fault_31 : decode cX12_fault 31 = .ok (.iastore, 1) := by decide +kernel
theorem tX12_fault_31 {d : Nat} {l0 l1 : Option Value} {x i : Int32} {a : Nat} {m : jmM} {Q : Option Value → jmM → Prop} : AW d 245 31 [l0, l1] [.int x, .int i, .ref a] m Q ↔ ((mS m a).1 = 20 ∧ jIx i (mS m a).2) ∧ AW d 245 32 [l0, l1] [] (cI m a (jup (mI m a) (jx i) x)) Q := A_iastore hB_X12_fault dX12_fault_31
theorem dX12_fault_32 : decode cX12_fault 32 = .ok (.iconst 1, 1) := by decide +kernel
theorem tX12_fault_32 {d : Nat} {l0 l1 : Option Value} {m : jmM} {Q : Option Value → jmM → Prop} : AW d 245 32 [l0, l1] [] m Q ↔ AW d 245 33 [l0, l1] [.int 1] m Q := A_iconst hB_X12_fault dX12_fault_32 (by decide)
theorem dX12_fault_33 : decode cX12_fault 33 = .ok (.ireturn, 1) := by decide +kernel
theorem tX12_fault_33 {d : Nat} {l0 l1 : Option Value} {x : Int32} {m : jmM} {Q : Option Value → jmM → Prop} : AW d 245 33 [l0, l1] [.int x] m Q ↔ jBool x ∧ Q (some (.int x)) m := A_zreturn hB_X12_fault dX12_fault_33 hR_X12_fault
theorem hB_X12_firstFault : jB 246 = cX12_firstFault := rfl
theorem hO_X12_firstFault : jO 246 = 12 := rfl
theorem hR_X12_firstFault : jRt 246 = (some .int) := rfl
theorem nX12_firstFault (d : Nat) (x0 : Nat) (m : jmM) (Q : Option Value → jmM → Prop) : CC (d + 1) 246 [.ref x0] m Q ↔ AW d 246 0 [some (.ref x0), none] [] m Q := CC_body (Nat.le_of_ble_eq_true rfl)
theorem dX12_firstFault_0 : decode cX12_firstFault 0 = .ok (.iconst 0, 1) := by decide +kernel
theorem tX12_firstFault_0 {d : Nat} {l0 l1 : Option Value} {m : jmM} {Q : Option Value → jmM → Prop} : AW d 246 0 [l0, l1] [] m Q ↔ AW d 246 1 [l0, l1] [.int 0] m Q := A_iconst hB_X12_firstFault dX12_firstFault_0 (by decide)
theorem dX12_firstFault_1 : decode cX12_firstFault 1 = .ok (.istore_n 1, 1) := by decide +kernel
theorem tX12_firstFault_1 {d : Nat} {l0 l1 : Option Value} {x : Int32} {m : jmM} {Q : Option Value → jmM → Prop} : AW d 246 1 [l0, l1] [.int x] m Q ↔ AW d 246 2 [jc1 l0, some (.int x)] [] m Q := A_istore_n hB_X12_firstFault dX12_firstFault_1 (Nat.le_of_ble_eq_true rfl) rfl
theorem dX12_firstFault_2 : decode cX12_firstFault 2 = .ok (.iload_n 1, 1) := by decide +kernel
theorem tX12_firstFault_2 {d : Nat} {l0 : Option Value} {x : Int32} {m : jmM} {Q : Option Value → jmM → Prop} : AW d 246 2 [l0, some (.int x)] [] m Q ↔ AW d 246 3 [l0, some (.int x)] [.int x] m Q := A_iload_n hB_X12_firstFault dX12_firstFault_2 rfl
theorem dX12_firstFault_3 : decode cX12_firstFault 3 = .ok (.aload_n 0, 1) := by decide +kernel
theorem tX12_firstFault_3 {d : Nat} {l1 : Option Value} {v0 : Value} {x : Nat} {m : jmM} {Q : Option Value → jmM → Prop} : AW d 246 3 [some (.ref x), l1] [v0] m Q ↔ AW d 246 4 [some (.ref x), l1] [.ref x, v0] m Q := A_aload_n hB_X12_firstFault dX12_firstFault_3 rfl
theorem dX12_firstFault_4 : decode cX12_firstFault 4 = .ok (.getfield 51, 3) := by decide +kernel
theorem tX12_firstFault_4 {d : Nat} {l0 l1 : Option Value} {v1 : Value} {a : Nat} {m : jmM} {Q : Option Value → jmM → Prop} : AW d 246 4 [l0, l1] [.ref a, v1] m Q ↔ (mS m a).1 = 12 ∧ AW d 246 7 [l0, l1] [va_rf (mR m a 25), v1] m Q := A_getfield (f := fun m a => va_rf (mR m a 25)) hB_X12_firstFault dX12_firstFault_4 hO_X12_firstFault fF_12_51 rfl
theorem dX12_firstFault_7 : decode cX12_firstFault 7 = .ok (.bipush 15, 2) := by decide +kernel
theorem tX12_firstFault_7 {d : Nat} {l0 l1 : Option Value} {v0 v1 : Value} {m : jmM} {Q : Option Value → jmM → Prop} : AW d 246 7 [l0, l1] [v0, v1] m Q ↔ AW d 246 9 [l0, l1] [.int 15, v0, v1] m Q := A_bipush hB_X12_firstFault dX12_firstFault_7 rfl
theorem dX12_firstFault_9 : decode cX12_firstFault 9 = .ok (.iaload, 1) := by decide +kernel
theorem tX12_firstFault_9 {d : Nat} {l0 l1 : Option Value} {v2 : Value} {i : Int32} {a : Nat} {m : jmM} {Q : Option Value → jmM → Prop} : AW d 246 9 [l0, l1] [.int i, .ref a, v2] m Q ↔ (((mS m a).1 = 20 ∨ a = jScr) ∧ jIx i (mS m a).2) ∧ AW d 246 10 [l0, l1] [.int (mI m a (jx i)), v2] m Q := A_iaload hB_X12_firstFault dX12_firstFault_9
theorem dX12_firstFault_10 : decode cX12_firstFault 10 = .ok (.if_icmp .ge 18, 3) := by decide +kernel
theorem tX12_firstFault_10 {d : Nat} {l0 l1 : Option Value} {x y : Int32} {m : jmM} {Q : Option Value → jmM → Prop} : AW d 246 10 [l0, l1] [.int y, .int x] m Q ↔ if y ≤ x then AW d 246 28 [l0, l1] [] m Q else AW d 246 13 [l0, l1] [] m Q := A_icmp_ge hB_X12_firstFault dX12_firstFault_10 (by decide)
theorem dX12_firstFault_13 : decode cX12_firstFault 13 = .ok (.aload_n 0, 1) := by decide +kernel
theorem tX12_firstFault_13 {d : Nat} {l1 : Option Value} {x : Nat} {m : jmM} {Q : Option Value → jmM → Prop} : AW d 246 13 [some (.ref x), l1] [] m Q ↔ AW d 246 14 [some (.ref x), l1] [.ref x] m Q := A_aload_n hB_X12_firstFault dX12_firstFault_13 rfl
theorem dX12_firstFault_14 : decode cX12_firstFault 14 = .ok (.iload_n 1, 1) := by decide +kernel
theorem tX12_firstFault_14 {d : Nat} {l0 : Option Value} {v0 : Value} {x : Int32} {m : jmM} {Q : Option Value → jmM → Prop} : AW d 246 14 [l0, some (.int x)] [v0] m Q ↔ AW d 246 15 [l0, some (.int x)] [.int x, v0] m Q := A_iload_n hB_X12_firstFault dX12_firstFault_14 rfl
theorem dX12_firstFault_15 : decode cX12_firstFault 15 = .ok (.iconst 5, 1) := by decide +kernel
theorem tX12_firstFault_15 {d : Nat} {l0 l1 : Option Value} {v0 v1 : Value} {m : jmM} {Q : Option Value → jmM → Prop} : AW d 246 15 [l0, l1] [v0, v1] m Q ↔ AW d 246 16 [l0, l1] [.int 5, v0, v1] m Q := A_iconst hB_X12_firstFault dX12_firstFault_15 (by decide)
theorem dX12_firstFault_16 : decode cX12_firstFault 16 = .ok (.invokevirtual 297, 3) := by decide +kernel
theorem tX12_firstFault_16 {d : Nat} {l0 l1 : Option Value} {y0 y1 : Value} {a : Nat} {m : jmM} {Q : Option Value → jmM → Prop} : AW d 246 16 [l0, l1] [y0, y1, .ref a] m Q ↔ (mS m a).1 = 12 ∧ CC d 229 [.ref a, y1, y0] m (jK d 246 19 [l0, l1] [] Q) := A_callV hB_X12_firstFault dX12_firstFault_16 hO_X12_firstFault fS_12_297 ⟨Nat.le_of_ble_eq_true rfl, Nat.le_of_ble_eq_true rfl⟩ rfl rfl rfl
theorem dX12_firstFault_19 : decode cX12_firstFault 19 = .ok (.ifCond .ne 9, 3) := by decide +kernel
theorem tX12_firstFault_19 {d : Nat} {l0 l1 : Option Value} {x : Int32} {m : jmM} {Q : Option Value → jmM → Prop} : AW d 246 19 [l0, l1] [.int x] m Q ↔ if x = 0 then AW d 246 22 [l0, l1] [] m Q else AW d 246 28 [l0, l1] [] m Q := A_if_ne hB_X12_firstFault dX12_firstFault_19 (by decide)
theorem dX12_firstFault_22 : decode cX12_firstFault 22 = .ok (.iinc 1 1, 3) := by decide +kernel
theorem tX12_firstFault_22 {d : Nat} {l0 : Option Value} {x : Int32} {m : jmM} {Q : Option Value → jmM → Prop} : AW d 246 22 [l0, some (.int x)] [] m Q ↔ AW d 246 25 [jc1 l0, some (.int (x + 1))] [] m Q := A_iinc hB_X12_firstFault dX12_firstFault_22 rfl (Nat.le_of_ble_eq_true rfl) (v := 1) (by decide) rfl
theorem dX12_firstFault_25 : decode cX12_firstFault 25 = .ok (.goto (-23), 3) := by decide +kernel
theorem tX12_firstFault_25 {d : Nat} {l0 l1 : Option Value} {m : jmM} {Q : Option Value → jmM → Prop} : AW d 246 25 [l0, l1] [] m Q ↔ AW d 246 2 [l0, l1] [] m Q := A_goto hB_X12_firstFault dX12_firstFault_25 (by decide)
theorem dX12_firstFault_28 : decode cX12_firstFault 28 = .ok (.iload_n 1, 1) := by decide +kernel
theorem tX12_firstFault_28 {d : Nat} {l0 : Option Value} {x : Int32} {m : jmM} {Q : Option Value → jmM → Prop} : AW d 246 28 [l0, some (.int x)] [] m Q ↔ AW d 246 29 [l0, some (.int x)] [.int x] m Q := A_iload_n hB_X12_firstFault dX12_firstFault_28 rfl
theorem dX12_firstFault_29 : decode cX12_firstFault 29 = .ok (.ireturn, 1) := by decide +kernel
theorem tX12_firstFault_29 {d : Nat} {l0 l1 : Option Value} {x : Int32} {m : jmM} {Q : Option Value → jmM → Prop} : AW d 246 29 [l0, l1] [.int x] m Q ↔ Q (some (.int x)) m := A_ireturn hB_X12_firstFault dX12_firstFault_29 hR_X12_firstFault
theorem hB_X12_thin : jB 247 = cX12_thin := rfl
theorem hO_X12_thin : jO 247 = 12 := rfl
theorem hR_X12_thin : jRt 247 = (some .int) := rfl
theorem nX12_thin (d : Nat) (x0 : Nat) (x1 : Int32) (m : jmM) (Q : Option Value → jmM → Prop) : CC (d + 1) 247 [.ref x0, .int x1] m Q ↔ AW d 247 0 [some (.ref x0), some (.int x1), none] [] m Q := CC_body (Nat.le_of_ble_eq_true rfl)
theorem dX12_thin_0 : decode cX12_thin 0 = .ok (.iload_n 1, 1) := by decide +kernel
theorem tX12_thin_0 {d : Nat} {l0 l2 : Option Value} {x : Int32} {m : jmM} {Q : Option Value → jmM → Prop} : AW d 247 0 [l0, some (.int x), l2] [] m Q ↔ AW d 247 1 [l0, some (.int x), l2] [.int x] m Q := A_iload_n hB_X12_thin dX12_thin_0 rfl
theorem dX12_thin_1 : decode cX12_thin 1 = .ok (.i2l, 1) := by decide +kernel
theorem tX12_thin_1 {d : Nat} {l0 l1 l2 : Option Value} {x : Int32} {m : jmM} {Q : Option Value → jmM → Prop} : AW d 247 1 [l0, l1, l2] [.int x] m Q ↔ AW d 247 2 [l0, l1, l2] [.long x.toInt64] m Q := A_i2l hB_X12_thin dX12_thin_1
theorem dX12_thin_2 : decode cX12_thin 2 = .ok (.lconst 1, 1) := by decide +kernel
theorem tX12_thin_2 {d : Nat} {l0 l1 l2 : Option Value} {v0 : Value} {m : jmM} {Q : Option Value → jmM → Prop} : AW d 247 2 [l0, l1, l2] [v0] m Q ↔ AW d 247 3 [l0, l1, l2] [.long 1, v0] m Q := A_lconst hB_X12_thin dX12_thin_2 (by decide)
theorem dX12_thin_3 : decode cX12_thin 3 = .ok (.ldc2_w 291, 3) := by decide +kernel
theorem tX12_thin_3 {d : Nat} {l0 l1 l2 : Option Value} {v0 v1 : Value} {m : jmM} {Q : Option Value → jmM → Prop} : AW d 247 3 [l0, l1, l2] [v0, v1] m Q ↔ AW d 247 6 [l0, l1, l2] [.long 9999, v0, v1] m Q := A_ldc2_w hB_X12_thin dX12_thin_3 hO_X12_thin fL2_12_291
theorem dX12_thin_6 : decode cX12_thin 6 = .ok (.invokestatic 281, 3) := by decide +kernel
theorem tX12_thin_6 {d : Nat} {l0 l1 l2 : Option Value} {y0 y1 y2 : Value} {m : jmM} {Q : Option Value → jmM → Prop} : AW d 247 6 [l0, l1, l2] [y0, y1, y2] m Q ↔ CC d 189 [y2, y1, y0] m (jK d 247 9 [l0, l1, l2] [] Q) := A_callS0 hB_X12_thin dX12_thin_6 hO_X12_thin fS_12_281 ⟨Nat.le_of_ble_eq_true rfl, Nat.le_of_ble_eq_true rfl⟩ rfl rfl
theorem dX12_thin_9 : decode cX12_thin 9 = .ok (.ifCond .ne 5, 3) := by decide +kernel
theorem tX12_thin_9 {d : Nat} {l0 l1 l2 : Option Value} {x : Int32} {m : jmM} {Q : Option Value → jmM → Prop} : AW d 247 9 [l0, l1, l2] [.int x] m Q ↔ if x = 0 then AW d 247 12 [l0, l1, l2] [] m Q else AW d 247 14 [l0, l1, l2] [] m Q := A_if_ne hB_X12_thin dX12_thin_9 (by decide)
theorem dX12_thin_12 : decode cX12_thin 12 = .ok (.iconst (-1), 1) := by decide +kernel
theorem tX12_thin_12 {d : Nat} {l0 l1 l2 : Option Value} {m : jmM} {Q : Option Value → jmM → Prop} : AW d 247 12 [l0, l1, l2] [] m Q ↔ AW d 247 13 [l0, l1, l2] [.int (-1)] m Q := A_iconst hB_X12_thin dX12_thin_12 (by decide)
theorem dX12_thin_13 : decode cX12_thin 13 = .ok (.ireturn, 1) := by decide +kernel
theorem tX12_thin_13 {d : Nat} {l0 l1 l2 : Option Value} {x : Int32} {m : jmM} {Q : Option Value → jmM → Prop} : AW d 247 13 [l0, l1, l2] [.int x] m Q ↔ Q (some (.int x)) m := A_ireturn hB_X12_thin dX12_thin_13 hR_X12_thin
theorem dX12_thin_14 : decode cX12_thin 14 = .ok (.aload_n 0, 1) := by decide +kernel
theorem tX12_thin_14 {d : Nat} {l1 l2 : Option Value} {x : Nat} {m : jmM} {Q : Option Value → jmM → Prop} : AW d 247 14 [some (.ref x), l1, l2] [] m Q ↔ AW d 247 15 [some (.ref x), l1, l2] [.ref x] m Q := A_aload_n hB_X12_thin dX12_thin_14 rfl
theorem dX12_thin_15 : decode cX12_thin 15 = .ok (.getfield 69, 3) := by decide +kernel
theorem tX12_thin_15 {d : Nat} {l0 l1 l2 : Option Value} {a : Nat} {m : jmM} {Q : Option Value → jmM → Prop} : AW d 247 15 [l0, l1, l2] [.ref a] m Q ↔ (mS m a).1 = 12 ∧ AW d 247 18 [l0, l1, l2] [.int (mI m a 31)] m Q := A_getfield (f := fun m a => .int (mI m a 31)) hB_X12_thin dX12_thin_15 hO_X12_thin fF_12_69 rfl
theorem dX12_thin_18 : decode cX12_thin 18 = .ok (.istore_n 2, 1) := by decide +kernel
theorem tX12_thin_18 {d : Nat} {l0 l1 l2 : Option Value} {x : Int32} {m : jmM} {Q : Option Value → jmM → Prop} : AW d 247 18 [l0, l1, l2] [.int x] m Q ↔ AW d 247 19 [l0, jc1 l1, some (.int x)] [] m Q := A_istore_n hB_X12_thin dX12_thin_18 (Nat.le_of_ble_eq_true rfl) rfl
theorem dX12_thin_19 : decode cX12_thin 19 = .ok (.aload_n 0, 1) := by decide +kernel
theorem tX12_thin_19 {d : Nat} {l1 l2 : Option Value} {x : Nat} {m : jmM} {Q : Option Value → jmM → Prop} : AW d 247 19 [some (.ref x), l1, l2] [] m Q ↔ AW d 247 20 [some (.ref x), l1, l2] [.ref x] m Q := A_aload_n hB_X12_thin dX12_thin_19 rfl
theorem dX12_thin_20 : decode cX12_thin 20 = .ok (.iload_n 1, 1) := by decide +kernel
theorem tX12_thin_20 {d : Nat} {l0 l2 : Option Value} {v0 : Value} {x : Int32} {m : jmM} {Q : Option Value → jmM → Prop} : AW d 247 20 [l0, some (.int x), l2] [v0] m Q ↔ AW d 247 21 [l0, some (.int x), l2] [.int x, v0] m Q := A_iload_n hB_X12_thin dX12_thin_20 rfl
theorem dX12_thin_21 : decode cX12_thin 21 = .ok (.putfield 69, 3) := by decide +kernel
theorem tX12_thin_21 {d : Nat} {l0 l1 l2 : Option Value} {x : Int32} {a : Nat} {m : jmM} {Q : Option Value → jmM → Prop} : AW d 247 21 [l0, l1, l2] [.int x, .ref a] m Q ↔ (mS m a).1 = 12 ∧ AW d 247 24 [l0, l1, l2] [] (cI m a (jup (mI m a) 31 x)) Q := A_putI hB_X12_thin dX12_thin_21 hO_X12_thin fF_12_69 rfl (fun h => Bool.noConfusion h)
theorem dX12_thin_24 : decode cX12_thin 24 = .ok (.iload_n 2, 1) := by decide +kernel
theorem tX12_thin_24 {d : Nat} {l0 l1 : Option Value} {x : Int32} {m : jmM} {Q : Option Value → jmM → Prop} : AW d 247 24 [l0, l1, some (.int x)] [] m Q ↔ AW d 247 25 [l0, l1, some (.int x)] [.int x] m Q := A_iload_n hB_X12_thin dX12_thin_24 rfl
theorem dX12_thin_25 : decode cX12_thin 25 = .ok (.ireturn, 1) := by decide +kernel
theorem tX12_thin_25 {d : Nat} {l0 l1 l2 : Option Value} {x : Int32} {m : jmM} {Q : Option Value → jmM → Prop} : AW d 247 25 [l0, l1, l2] [.int x] m Q ↔ Q (some (.int x)) m := A_ireturn hB_X12_thin dX12_thin_25 hR_X12_thin
theorem hB_X12_isNeck : jB 248 = cX12_isNeck := rfl
theorem hO_X12_isNeck : jO 248 = 12 := rfl
theorem hR_X12_isNeck : jRt 248 = (some .boolean) := rfl
theorem nX12_isNeck (d : Nat) (x0 : Nat) (x1 : Int32) (m : jmM) (Q : Option Value → jmM → Prop) : CC (d + 1) 248 [.ref x0, .int x1] m Q ↔ AW d 248 0 [some (.ref x0), some (.int x1)] [] m Q := CC_body (Nat.le_of_ble_eq_true rfl)
theorem dX12_isNeck_0 : decode cX12_isNeck 0 = .ok (.aload_n 0, 1) := by decide +kernel
theorem tX12_isNeck_0 {d : Nat} {l1 : Option Value} {x : Nat} {m : jmM} {Q : Option Value → jmM → Prop} : AW d 248 0 [some (.ref x), l1] [] m Q ↔ AW d 248 1 [some (.ref x), l1] [.ref x] m Q := A_aload_n hB_X12_isNeck dX12_isNeck_0 rfl
theorem dX12_isNeck_1 : decode cX12_isNeck 1 = .ok (.iload_n 1, 1) := by decide +kernel
theorem tX12_isNeck_1 {d : Nat} {l0 : Option Value} {v0 : Value} {x : Int32} {m : jmM} {Q : Option Value → jmM → Prop} : AW d 248 1 [l0, some (.int x)] [v0] m Q ↔ AW d 248 2 [l0, some (.int x)] [.int x, v0] m Q := A_iload_n hB_X12_isNeck dX12_isNeck_1 rfl
theorem dX12_isNeck_2 : decode cX12_isNeck 2 = .ok (.iconst 0, 1) := by decide +kernel
theorem tX12_isNeck_2 {d : Nat} {l0 l1 : Option Value} {v0 v1 : Value} {m : jmM} {Q : Option Value → jmM → Prop} : AW d 248 2 [l0, l1] [v0, v1] m Q ↔ AW d 248 3 [l0, l1] [.int 0, v0, v1] m Q := A_iconst hB_X12_isNeck dX12_isNeck_2 (by decide)
theorem dX12_isNeck_3 : decode cX12_isNeck 3 = .ok (.invokevirtual 297, 3) := by decide +kernel
theorem tX12_isNeck_3 {d : Nat} {l0 l1 : Option Value} {y0 y1 : Value} {a : Nat} {m : jmM} {Q : Option Value → jmM → Prop} : AW d 248 3 [l0, l1] [y0, y1, .ref a] m Q ↔ (mS m a).1 = 12 ∧ CC d 229 [.ref a, y1, y0] m (jK d 248 6 [l0, l1] [] Q) := A_callV hB_X12_isNeck dX12_isNeck_3 hO_X12_isNeck fS_12_297 ⟨Nat.le_of_ble_eq_true rfl, Nat.le_of_ble_eq_true rfl⟩ rfl rfl rfl
theorem dX12_isNeck_6 : decode cX12_isNeck 6 = .ok (.aload_n 0, 1) := by decide +kernel
theorem tX12_isNeck_6 {d : Nat} {l1 : Option Value} {v0 : Value} {x : Nat} {m : jmM} {Q : Option Value → jmM → Prop} : AW d 248 6 [some (.ref x), l1] [v0] m Q ↔ AW d 248 7 [some (.ref x), l1] [.ref x, v0] m Q := A_aload_n hB_X12_isNeck dX12_isNeck_6 rfl
theorem dX12_isNeck_7 : decode cX12_isNeck 7 = .ok (.getfield 69, 3) := by decide +kernel
theorem tX12_isNeck_7 {d : Nat} {l0 l1 : Option Value} {v1 : Value} {a : Nat} {m : jmM} {Q : Option Value → jmM → Prop} : AW d 248 7 [l0, l1] [.ref a, v1] m Q ↔ (mS m a).1 = 12 ∧ AW d 248 10 [l0, l1] [.int (mI m a 31), v1] m Q := A_getfield (f := fun m a => .int (mI m a 31)) hB_X12_isNeck dX12_isNeck_7 hO_X12_isNeck fF_12_69 rfl
theorem dX12_isNeck_10 : decode cX12_isNeck 10 = .ok (.if_icmp .gt 7, 3) := by decide +kernel
theorem tX12_isNeck_10 {d : Nat} {l0 l1 : Option Value} {x y : Int32} {m : jmM} {Q : Option Value → jmM → Prop} : AW d 248 10 [l0, l1] [.int y, .int x] m Q ↔ if y < x then AW d 248 17 [l0, l1] [] m Q else AW d 248 13 [l0, l1] [] m Q := A_icmp_gt hB_X12_isNeck dX12_isNeck_10 (by decide)
theorem dX12_isNeck_13 : decode cX12_isNeck 13 = .ok (.iconst 1, 1) := by decide +kernel
theorem tX12_isNeck_13 {d : Nat} {l0 l1 : Option Value} {m : jmM} {Q : Option Value → jmM → Prop} : AW d 248 13 [l0, l1] [] m Q ↔ AW d 248 14 [l0, l1] [.int 1] m Q := A_iconst hB_X12_isNeck dX12_isNeck_13 (by decide)
theorem dX12_isNeck_14 : decode cX12_isNeck 14 = .ok (.goto 4, 3) := by decide +kernel
theorem tX12_isNeck_14 {d : Nat} {l0 l1 : Option Value} {v0 : Value} {m : jmM} {Q : Option Value → jmM → Prop} : AW d 248 14 [l0, l1] [v0] m Q ↔ AW d 248 18 [l0, l1] [v0] m Q := A_goto hB_X12_isNeck dX12_isNeck_14 (by decide)
theorem dX12_isNeck_17 : decode cX12_isNeck 17 = .ok (.iconst 0, 1) := by decide +kernel
theorem tX12_isNeck_17 {d : Nat} {l0 l1 : Option Value} {m : jmM} {Q : Option Value → jmM → Prop} : AW d 248 17 [l0, l1] [] m Q ↔ AW d 248 18 [l0, l1] [.int 0] m Q := A_iconst hB_X12_isNeck dX12_isNeck_17 (by decide)
theorem dX12_isNeck_18 : decode cX12_isNeck 18 = .ok (.ireturn, 1) := by decide +kernel
theorem tX12_isNeck_18 {d : Nat} {l0 l1 : Option Value} {x : Int32} {m : jmM} {Q : Option Value → jmM → Prop} : AW d 248 18 [l0, l1] [.int x] m Q ↔ jBool x ∧ Q (some (.int x)) m := A_zreturn hB_X12_isNeck dX12_isNeck_18 hR_X12_isNeck
theorem hB_X12_flawsBehind : jB 249 = cX12_flawsBehind := rfl
theorem hO_X12_flawsBehind : jO 249 = 12 := rfl
theorem hR_X12_flawsBehind : jRt 249 = (some .int) := rfl
theorem nX12_flawsBehind (d : Nat) (x0 : Nat) (x1 : Int32) (m : jmM) (Q : Option Value → jmM → Prop) : CC (d + 1) 249 [.ref x0, .int x1] m Q ↔ AW d 249 0 [some (.ref x0), some (.int x1), none, none] [] m Q := CC_body (Nat.le_of_ble_eq_true rfl)
theorem dX12_flawsBehind_0 : decode cX12_flawsBehind 0 = .ok (.aload_n 0, 1) := by decide +kernel
theorem tX12_flawsBehind_0 {d : Nat} {l1 l2 l3 : Option Value} {x : Nat} {m : jmM} {Q : Option Value → jmM → Prop} : AW d 249 0 [some (.ref x), l1, l2, l3] [] m Q ↔ AW d 249 1 [some (.ref x), l1, l2, l3] [.ref x] m Q := A_aload_n hB_X12_flawsBehind dX12_flawsBehind_0 rfl
theorem dX12_flawsBehind_1 : decode cX12_flawsBehind 1 = .ok (.getfield 51, 3) := by decide +kernel
theorem tX12_flawsBehind_1 {d : Nat} {l0 l1 l2 l3 : Option Value} {a : Nat} {m : jmM} {Q : Option Value → jmM → Prop} : AW d 249 1 [l0, l1, l2, l3] [.ref a] m Q ↔ (mS m a).1 = 12 ∧ AW d 249 4 [l0, l1, l2, l3] [va_rf (mR m a 25)] m Q := A_getfield (f := fun m a => va_rf (mR m a 25)) hB_X12_flawsBehind dX12_flawsBehind_1 hO_X12_flawsBehind fF_12_51 rfl
theorem dX12_flawsBehind_4 : decode cX12_flawsBehind 4 = .ok (.bipush 8, 2) := by decide +kernel
theorem tX12_flawsBehind_4 {d : Nat} {l0 l1 l2 l3 : Option Value} {v0 : Value} {m : jmM} {Q : Option Value → jmM → Prop} : AW d 249 4 [l0, l1, l2, l3] [v0] m Q ↔ AW d 249 6 [l0, l1, l2, l3] [.int 8, v0] m Q := A_bipush hB_X12_flawsBehind dX12_flawsBehind_4 rfl
theorem dX12_flawsBehind_6 : decode cX12_flawsBehind 6 = .ok (.iaload, 1) := by decide +kernel
theorem tX12_flawsBehind_6 {d : Nat} {l0 l1 l2 l3 : Option Value} {i : Int32} {a : Nat} {m : jmM} {Q : Option Value → jmM → Prop} : AW d 249 6 [l0, l1, l2, l3] [.int i, .ref a] m Q ↔ (((mS m a).1 = 20 ∨ a = jScr) ∧ jIx i (mS m a).2) ∧ AW d 249 7 [l0, l1, l2, l3] [.int (mI m a (jx i))] m Q := A_iaload hB_X12_flawsBehind dX12_flawsBehind_6
theorem dX12_flawsBehind_7 : decode cX12_flawsBehind 7 = .ok (.istore_n 2, 1) := by decide +kernel
theorem tX12_flawsBehind_7 {d : Nat} {l0 l1 l2 l3 : Option Value} {x : Int32} {m : jmM} {Q : Option Value → jmM → Prop} : AW d 249 7 [l0, l1, l2, l3] [.int x] m Q ↔ AW d 249 8 [l0, jc1 l1, some (.int x), l3] [] m Q := A_istore_n hB_X12_flawsBehind dX12_flawsBehind_7 (Nat.le_of_ble_eq_true rfl) rfl
theorem dX12_flawsBehind_8 : decode cX12_flawsBehind 8 = .ok (.iconst 0, 1) := by decide +kernel
theorem tX12_flawsBehind_8 {d : Nat} {l0 l1 l2 l3 : Option Value} {m : jmM} {Q : Option Value → jmM → Prop} : AW d 249 8 [l0, l1, l2, l3] [] m Q ↔ AW d 249 9 [l0, l1, l2, l3] [.int 0] m Q := A_iconst hB_X12_flawsBehind dX12_flawsBehind_8 (by decide)
theorem dX12_flawsBehind_9 : decode cX12_flawsBehind 9 = .ok (.istore_n 3, 1) := by decide +kernel
theorem tX12_flawsBehind_9 {d : Nat} {l0 l1 l2 l3 : Option Value} {x : Int32} {m : jmM} {Q : Option Value → jmM → Prop} : AW d 249 9 [l0, l1, l2, l3] [.int x] m Q ↔ AW d 249 10 [l0, l1, jc1 l2, some (.int x)] [] m Q := A_istore_n hB_X12_flawsBehind dX12_flawsBehind_9 (Nat.le_of_ble_eq_true rfl) rfl
theorem dX12_flawsBehind_10 : decode cX12_flawsBehind 10 = .ok (.iload_n 3, 1) := by decide +kernel
theorem tX12_flawsBehind_10 {d : Nat} {l0 l1 l2 : Option Value} {x : Int32} {m : jmM} {Q : Option Value → jmM → Prop} : AW d 249 10 [l0, l1, l2, some (.int x)] [] m Q ↔ AW d 249 11 [l0, l1, l2, some (.int x)] [.int x] m Q := A_iload_n hB_X12_flawsBehind dX12_flawsBehind_10 rfl
theorem dX12_flawsBehind_11 : decode cX12_flawsBehind 11 = .ok (.iload_n 1, 1) := by decide +kernel
theorem tX12_flawsBehind_11 {d : Nat} {l0 l2 l3 : Option Value} {v0 : Value} {x : Int32} {m : jmM} {Q : Option Value → jmM → Prop} : AW d 249 11 [l0, some (.int x), l2, l3] [v0] m Q ↔ AW d 249 12 [l0, some (.int x), l2, l3] [.int x, v0] m Q := A_iload_n hB_X12_flawsBehind dX12_flawsBehind_11 rfl
theorem dX12_flawsBehind_12 : decode cX12_flawsBehind 12 = .ok (.if_icmp .ge 34, 3) := by decide +kernel
theorem tX12_flawsBehind_12 {d : Nat} {l0 l1 l2 l3 : Option Value} {x y : Int32} {m : jmM} {Q : Option Value → jmM → Prop} : AW d 249 12 [l0, l1, l2, l3] [.int y, .int x] m Q ↔ if y ≤ x then AW d 249 46 [l0, l1, l2, l3] [] m Q else AW d 249 15 [l0, l1, l2, l3] [] m Q := A_icmp_ge hB_X12_flawsBehind dX12_flawsBehind_12 (by decide)
theorem dX12_flawsBehind_15 : decode cX12_flawsBehind 15 = .ok (.iload_n 2, 1) := by decide +kernel
theorem tX12_flawsBehind_15 {d : Nat} {l0 l1 l3 : Option Value} {x : Int32} {m : jmM} {Q : Option Value → jmM → Prop} : AW d 249 15 [l0, l1, some (.int x), l3] [] m Q ↔ AW d 249 16 [l0, l1, some (.int x), l3] [.int x] m Q := A_iload_n hB_X12_flawsBehind dX12_flawsBehind_15 rfl
theorem dX12_flawsBehind_16 : decode cX12_flawsBehind 16 = .ok (.ifCond .le 30, 3) := by decide +kernel
theorem tX12_flawsBehind_16 {d : Nat} {l0 l1 l2 l3 : Option Value} {x : Int32} {m : jmM} {Q : Option Value → jmM → Prop} : AW d 249 16 [l0, l1, l2, l3] [.int x] m Q ↔ if x ≤ 0 then AW d 249 46 [l0, l1, l2, l3] [] m Q else AW d 249 19 [l0, l1, l2, l3] [] m Q := A_if_le hB_X12_flawsBehind dX12_flawsBehind_16 (by decide)
theorem dX12_flawsBehind_19 : decode cX12_flawsBehind 19 = .ok (.iload_n 2, 1) := by decide +kernel
theorem tX12_flawsBehind_19 {d : Nat} {l0 l1 l3 : Option Value} {x : Int32} {m : jmM} {Q : Option Value → jmM → Prop} : AW d 249 19 [l0, l1, some (.int x), l3] [] m Q ↔ AW d 249 20 [l0, l1, some (.int x), l3] [.int x] m Q := A_iload_n hB_X12_flawsBehind dX12_flawsBehind_19 rfl
theorem dX12_flawsBehind_20 : decode cX12_flawsBehind 20 = .ok (.aload_n 0, 1) := by decide +kernel
theorem tX12_flawsBehind_20 {d : Nat} {l1 l2 l3 : Option Value} {v0 : Value} {x : Nat} {m : jmM} {Q : Option Value → jmM → Prop} : AW d 249 20 [some (.ref x), l1, l2, l3] [v0] m Q ↔ AW d 249 21 [some (.ref x), l1, l2, l3] [.ref x, v0] m Q := A_aload_n hB_X12_flawsBehind dX12_flawsBehind_20 rfl
theorem dX12_flawsBehind_21 : decode cX12_flawsBehind 21 = .ok (.iload_n 3, 1) := by decide +kernel
theorem tX12_flawsBehind_21 {d : Nat} {l0 l1 l2 : Option Value} {v0 v1 : Value} {x : Int32} {m : jmM} {Q : Option Value → jmM → Prop} : AW d 249 21 [l0, l1, l2, some (.int x)] [v0, v1] m Q ↔ AW d 249 22 [l0, l1, l2, some (.int x)] [.int x, v0, v1] m Q := A_iload_n hB_X12_flawsBehind dX12_flawsBehind_21 rfl
theorem dX12_flawsBehind_22 : decode cX12_flawsBehind 22 = .ok (.invokevirtual 364, 3) := by decide +kernel
theorem tX12_flawsBehind_22 {d : Nat} {l0 l1 l2 l3 : Option Value} {v2 : Value} {y0 : Value} {a : Nat} {m : jmM} {Q : Option Value → jmM → Prop} : AW d 249 22 [l0, l1, l2, l3] [y0, .ref a, v2] m Q ↔ (mS m a).1 = 12 ∧ CC d 248 [.ref a, y0] m (jK d 249 25 [l0, l1, l2, l3] [v2] Q) := A_callV hB_X12_flawsBehind dX12_flawsBehind_22 hO_X12_flawsBehind fS_12_364 ⟨Nat.le_of_ble_eq_true rfl, Nat.le_of_ble_eq_true rfl⟩ rfl rfl rfl
theorem dX12_flawsBehind_25 : decode cX12_flawsBehind 25 = .ok (.ifCond .eq 12, 3) := by decide +kernel
theorem tX12_flawsBehind_25 {d : Nat} {l0 l1 l2 l3 : Option Value} {v1 : Value} {x : Int32} {m : jmM} {Q : Option Value → jmM → Prop} : AW d 249 25 [l0, l1, l2, l3] [.int x, v1] m Q ↔ if x = 0 then AW d 249 37 [l0, l1, l2, l3] [v1] m Q else AW d 249 28 [l0, l1, l2, l3] [v1] m Q := A_if_eq hB_X12_flawsBehind dX12_flawsBehind_25 (by decide)
theorem dX12_flawsBehind_28 : decode cX12_flawsBehind 28 = .ok (.aload_n 0, 1) := by decide +kernel
theorem tX12_flawsBehind_28 {d : Nat} {l1 l2 l3 : Option Value} {v0 : Value} {x : Nat} {m : jmM} {Q : Option Value → jmM → Prop} : AW d 249 28 [some (.ref x), l1, l2, l3] [v0] m Q ↔ AW d 249 29 [some (.ref x), l1, l2, l3] [.ref x, v0] m Q := A_aload_n hB_X12_flawsBehind dX12_flawsBehind_28 rfl
theorem dX12_flawsBehind_29 : decode cX12_flawsBehind 29 = .ok (.iload_n 3, 1) := by decide +kernel
theorem tX12_flawsBehind_29 {d : Nat} {l0 l1 l2 : Option Value} {v0 v1 : Value} {x : Int32} {m : jmM} {Q : Option Value → jmM → Prop} : AW d 249 29 [l0, l1, l2, some (.int x)] [v0, v1] m Q ↔ AW d 249 30 [l0, l1, l2, some (.int x)] [.int x, v0, v1] m Q := A_iload_n hB_X12_flawsBehind dX12_flawsBehind_29 rfl
theorem dX12_flawsBehind_30 : decode cX12_flawsBehind 30 = .ok (.iconst 2, 1) := by decide +kernel
theorem tX12_flawsBehind_30 {d : Nat} {l0 l1 l2 l3 : Option Value} {v0 v1 v2 : Value} {m : jmM} {Q : Option Value → jmM → Prop} : AW d 249 30 [l0, l1, l2, l3] [v0, v1, v2] m Q ↔ AW d 249 31 [l0, l1, l2, l3] [.int 2, v0, v1, v2] m Q := A_iconst hB_X12_flawsBehind dX12_flawsBehind_30 (by decide)
theorem dX12_flawsBehind_31 : decode cX12_flawsBehind 31 = .ok (.invokevirtual 297, 3) := by decide +kernel
theorem tX12_flawsBehind_31 {d : Nat} {l0 l1 l2 l3 : Option Value} {v3 : Value} {y0 y1 : Value} {a : Nat} {m : jmM} {Q : Option Value → jmM → Prop} : AW d 249 31 [l0, l1, l2, l3] [y0, y1, .ref a, v3] m Q ↔ (mS m a).1 = 12 ∧ CC d 229 [.ref a, y1, y0] m (jK d 249 34 [l0, l1, l2, l3] [v3] Q) := A_callV hB_X12_flawsBehind dX12_flawsBehind_31 hO_X12_flawsBehind fS_12_297 ⟨Nat.le_of_ble_eq_true rfl, Nat.le_of_ble_eq_true rfl⟩ rfl rfl rfl
theorem dX12_flawsBehind_34 : decode cX12_flawsBehind 34 = .ok (.goto 4, 3) := by decide +kernel
theorem tX12_flawsBehind_34 {d : Nat} {l0 l1 l2 l3 : Option Value} {v0 v1 : Value} {m : jmM} {Q : Option Value → jmM → Prop} : AW d 249 34 [l0, l1, l2, l3] [v0, v1] m Q ↔ AW d 249 38 [l0, l1, l2, l3] [v0, v1] m Q := A_goto hB_X12_flawsBehind dX12_flawsBehind_34 (by decide)
theorem dX12_flawsBehind_37 : decode cX12_flawsBehind 37 = .ok (.iconst 0, 1) := by decide +kernel
theorem tX12_flawsBehind_37 {d : Nat} {l0 l1 l2 l3 : Option Value} {v0 : Value} {m : jmM} {Q : Option Value → jmM → Prop} : AW d 249 37 [l0, l1, l2, l3] [v0] m Q ↔ AW d 249 38 [l0, l1, l2, l3] [.int 0, v0] m Q := A_iconst hB_X12_flawsBehind dX12_flawsBehind_37 (by decide)
theorem dX12_flawsBehind_38 : decode cX12_flawsBehind 38 = .ok (.isub, 1) := by decide +kernel
theorem tX12_flawsBehind_38 {d : Nat} {l0 l1 l2 l3 : Option Value} {x y : Int32} {m : jmM} {Q : Option Value → jmM → Prop} : AW d 249 38 [l0, l1, l2, l3] [.int y, .int x] m Q ↔ AW d 249 39 [l0, l1, l2, l3] [.int (x - y)] m Q := A_isub hB_X12_flawsBehind dX12_flawsBehind_38
theorem dX12_flawsBehind_39 : decode cX12_flawsBehind 39 = .ok (.istore_n 2, 1) := by decide +kernel
theorem tX12_flawsBehind_39 {d : Nat} {l0 l1 l2 l3 : Option Value} {x : Int32} {m : jmM} {Q : Option Value → jmM → Prop} : AW d 249 39 [l0, l1, l2, l3] [.int x] m Q ↔ AW d 249 40 [l0, jc1 l1, some (.int x), l3] [] m Q := A_istore_n hB_X12_flawsBehind dX12_flawsBehind_39 (Nat.le_of_ble_eq_true rfl) rfl
theorem dX12_flawsBehind_40 : decode cX12_flawsBehind 40 = .ok (.iinc 3 1, 3) := by decide +kernel
theorem tX12_flawsBehind_40 {d : Nat} {l0 l1 l2 : Option Value} {x : Int32} {m : jmM} {Q : Option Value → jmM → Prop} : AW d 249 40 [l0, l1, l2, some (.int x)] [] m Q ↔ AW d 249 43 [l0, l1, jc1 l2, some (.int (x + 1))] [] m Q := A_iinc hB_X12_flawsBehind dX12_flawsBehind_40 rfl (Nat.le_of_ble_eq_true rfl) (v := 1) (by decide) rfl
theorem dX12_flawsBehind_43 : decode cX12_flawsBehind 43 = .ok (.goto (-33), 3) := by decide +kernel
theorem tX12_flawsBehind_43 {d : Nat} {l0 l1 l2 l3 : Option Value} {m : jmM} {Q : Option Value → jmM → Prop} : AW d 249 43 [l0, l1, l2, l3] [] m Q ↔ AW d 249 10 [l0, l1, l2, l3] [] m Q := A_goto hB_X12_flawsBehind dX12_flawsBehind_43 (by decide)
theorem dX12_flawsBehind_46 : decode cX12_flawsBehind 46 = .ok (.iload_n 2, 1) := by decide +kernel
theorem tX12_flawsBehind_46 {d : Nat} {l0 l1 l3 : Option Value} {x : Int32} {m : jmM} {Q : Option Value → jmM → Prop} : AW d 249 46 [l0, l1, some (.int x), l3] [] m Q ↔ AW d 249 47 [l0, l1, some (.int x), l3] [.int x] m Q := A_iload_n hB_X12_flawsBehind dX12_flawsBehind_46 rfl
theorem dX12_flawsBehind_47 : decode cX12_flawsBehind 47 = .ok (.ifCond .ge 7, 3) := by decide +kernel
theorem tX12_flawsBehind_47 {d : Nat} {l0 l1 l2 l3 : Option Value} {x : Int32} {m : jmM} {Q : Option Value → jmM → Prop} : AW d 249 47 [l0, l1, l2, l3] [.int x] m Q ↔ if 0 ≤ x then AW d 249 54 [l0, l1, l2, l3] [] m Q else AW d 249 50 [l0, l1, l2, l3] [] m Q := A_if_ge hB_X12_flawsBehind dX12_flawsBehind_47 (by decide)
theorem dX12_flawsBehind_50 : decode cX12_flawsBehind 50 = .ok (.iconst 0, 1) := by decide +kernel
theorem tX12_flawsBehind_50 {d : Nat} {l0 l1 l2 l3 : Option Value} {m : jmM} {Q : Option Value → jmM → Prop} : AW d 249 50 [l0, l1, l2, l3] [] m Q ↔ AW d 249 51 [l0, l1, l2, l3] [.int 0] m Q := A_iconst hB_X12_flawsBehind dX12_flawsBehind_50 (by decide)
theorem dX12_flawsBehind_51 : decode cX12_flawsBehind 51 = .ok (.goto 4, 3) := by decide +kernel
theorem tX12_flawsBehind_51 {d : Nat} {l0 l1 l2 l3 : Option Value} {v0 : Value} {m : jmM} {Q : Option Value → jmM → Prop} : AW d 249 51 [l0, l1, l2, l3] [v0] m Q ↔ AW d 249 55 [l0, l1, l2, l3] [v0] m Q := A_goto hB_X12_flawsBehind dX12_flawsBehind_51 (by decide)
theorem dX12_flawsBehind_54 : decode cX12_flawsBehind 54 = .ok (.iload_n 2, 1) := by decide +kernel
theorem tX12_flawsBehind_54 {d : Nat} {l0 l1 l3 : Option Value} {x : Int32} {m : jmM} {Q : Option Value → jmM → Prop} : AW d 249 54 [l0, l1, some (.int x), l3] [] m Q ↔ AW d 249 55 [l0, l1, some (.int x), l3] [.int x] m Q := A_iload_n hB_X12_flawsBehind dX12_flawsBehind_54 rfl
theorem dX12_flawsBehind_55 : decode cX12_flawsBehind 55 = .ok (.ireturn, 1) := by decide +kernel
theorem tX12_flawsBehind_55 {d : Nat} {l0 l1 l2 l3 : Option Value} {x : Int32} {m : jmM} {Q : Option Value → jmM → Prop} : AW d 249 55 [l0, l1, l2, l3] [.int x] m Q ↔ Q (some (.int x)) m := A_ireturn hB_X12_flawsBehind dX12_flawsBehind_55 hR_X12_flawsBehind
theorem hB_X12_isClean : jB 250 = cX12_isClean := rfl
theorem hO_X12_isClean : jO 250 = 12 := rfl
theorem hR_X12_isClean : jRt 250 = (some .boolean) := rfl
theorem nX12_isClean (d : Nat) (x0 : Nat) (x1 : Int32) (m : jmM) (Q : Option Value → jmM → Prop) : CC (d + 1) 250 [.ref x0, .int x1] m Q ↔ AW d 250 0 [some (.ref x0), some (.int x1)] [] m Q := CC_body (Nat.le_of_ble_eq_true rfl)
theorem dX12_isClean_0 : decode cX12_isClean 0 = .ok (.aload_n 0, 1) := by decide +kernel
theorem tX12_isClean_0 {d : Nat} {l1 : Option Value} {x : Nat} {m : jmM} {Q : Option Value → jmM → Prop} : AW d 250 0 [some (.ref x), l1] [] m Q ↔ AW d 250 1 [some (.ref x), l1] [.ref x] m Q := A_aload_n hB_X12_isClean dX12_isClean_0 rfl
theorem dX12_isClean_1 : decode cX12_isClean 1 = .ok (.iload_n 1, 1) := by decide +kernel
theorem tX12_isClean_1 {d : Nat} {l0 : Option Value} {v0 : Value} {x : Int32} {m : jmM} {Q : Option Value → jmM → Prop} : AW d 250 1 [l0, some (.int x)] [v0] m Q ↔ AW d 250 2 [l0, some (.int x)] [.int x, v0] m Q := A_iload_n hB_X12_isClean dX12_isClean_1 rfl
theorem dX12_isClean_2 : decode cX12_isClean 2 = .ok (.invokevirtual 367, 3) := by decide +kernel
theorem tX12_isClean_2 {d : Nat} {l0 l1 : Option Value} {y0 : Value} {a : Nat} {m : jmM} {Q : Option Value → jmM → Prop} : AW d 250 2 [l0, l1] [y0, .ref a] m Q ↔ (mS m a).1 = 12 ∧ CC d 249 [.ref a, y0] m (jK d 250 5 [l0, l1] [] Q) := A_callV hB_X12_isClean dX12_isClean_2 hO_X12_isClean fS_12_367 ⟨Nat.le_of_ble_eq_true rfl, Nat.le_of_ble_eq_true rfl⟩ rfl rfl rfl
theorem dX12_isClean_5 : decode cX12_isClean 5 = .ok (.ifCond .ne 7, 3) := by decide +kernel
theorem tX12_isClean_5 {d : Nat} {l0 l1 : Option Value} {x : Int32} {m : jmM} {Q : Option Value → jmM → Prop} : AW d 250 5 [l0, l1] [.int x] m Q ↔ if x = 0 then AW d 250 8 [l0, l1] [] m Q else AW d 250 12 [l0, l1] [] m Q := A_if_ne hB_X12_isClean dX12_isClean_5 (by decide)
theorem dX12_isClean_8 : decode cX12_isClean 8 = .ok (.iconst 1, 1) := by decide +kernel
theorem tX12_isClean_8 {d : Nat} {l0 l1 : Option Value} {m : jmM} {Q : Option Value → jmM → Prop} : AW d 250 8 [l0, l1] [] m Q ↔ AW d 250 9 [l0, l1] [.int 1] m Q := A_iconst hB_X12_isClean dX12_isClean_8 (by decide)
theorem dX12_isClean_9 : decode cX12_isClean 9 = .ok (.goto 4, 3) := by decide +kernel
theorem tX12_isClean_9 {d : Nat} {l0 l1 : Option Value} {v0 : Value} {m : jmM} {Q : Option Value → jmM → Prop} : AW d 250 9 [l0, l1] [v0] m Q ↔ AW d 250 13 [l0, l1] [v0] m Q := A_goto hB_X12_isClean dX12_isClean_9 (by decide)
theorem dX12_isClean_12 : decode cX12_isClean 12 = .ok (.iconst 0, 1) := by decide +kernel
theorem tX12_isClean_12 {d : Nat} {l0 l1 : Option Value} {m : jmM} {Q : Option Value → jmM → Prop} : AW d 250 12 [l0, l1] [] m Q ↔ AW d 250 13 [l0, l1] [.int 0] m Q := A_iconst hB_X12_isClean dX12_isClean_12 (by decide)
theorem dX12_isClean_13 : decode cX12_isClean 13 = .ok (.ireturn, 1) := by decide +kernel
theorem tX12_isClean_13 {d : Nat} {l0 l1 : Option Value} {x : Int32} {m : jmM} {Q : Option Value → jmM → Prop} : AW d 250 13 [l0, l1] [.int x] m Q ↔ jBool x ∧ Q (some (.int x)) m := A_zreturn hB_X12_isClean dX12_isClean_13 hR_X12_isClean
theorem hB_X12_faults : jB 251 = cX12_faults := rfl
theorem hO_X12_faults : jO 251 = 12 := rfl
theorem hR_X12_faults : jRt 251 = (some .int) := rfl
theorem nX12_faults (d : Nat) (x0 : Nat) (m : jmM) (Q : Option Value → jmM → Prop) : CC (d + 1) 251 [.ref x0] m Q ↔ AW d 251 0 [some (.ref x0)] [] m Q := CC_body (Nat.le_of_ble_eq_true rfl)
theorem dX12_faults_0 : decode cX12_faults 0 = .ok (.aload_n 0, 1) := by decide +kernel
theorem tX12_faults_0 {d : Nat} {x : Nat} {m : jmM} {Q : Option Value → jmM → Prop} : AW d 251 0 [some (.ref x)] [] m Q ↔ AW d 251 1 [some (.ref x)] [.ref x] m Q := A_aload_n hB_X12_faults dX12_faults_0 rfl
theorem dX12_faults_1 : decode cX12_faults 1 = .ok (.getfield 51, 3) := by decide +kernel
theorem tX12_faults_1 {d : Nat} {l0 : Option Value} {a : Nat} {m : jmM} {Q : Option Value → jmM → Prop} : AW d 251 1 [l0] [.ref a] m Q ↔ (mS m a).1 = 12 ∧ AW d 251 4 [l0] [va_rf (mR m a 25)] m Q := A_getfield (f := fun m a => va_rf (mR m a 25)) hB_X12_faults dX12_faults_1 hO_X12_faults fF_12_51 rfl
theorem dX12_faults_4 : decode cX12_faults 4 = .ok (.iconst 0, 1) := by decide +kernel
theorem tX12_faults_4 {d : Nat} {l0 : Option Value} {v0 : Value} {m : jmM} {Q : Option Value → jmM → Prop} : AW d 251 4 [l0] [v0] m Q ↔ AW d 251 5 [l0] [.int 0, v0] m Q := A_iconst hB_X12_faults dX12_faults_4 (by decide)
theorem dX12_faults_5 : decode cX12_faults 5 = .ok (.iaload, 1) := by decide +kernel
theorem tX12_faults_5 {d : Nat} {l0 : Option Value} {i : Int32} {a : Nat} {m : jmM} {Q : Option Value → jmM → Prop} : AW d 251 5 [l0] [.int i, .ref a] m Q ↔ (((mS m a).1 = 20 ∨ a = jScr) ∧ jIx i (mS m a).2) ∧ AW d 251 6 [l0] [.int (mI m a (jx i))] m Q := A_iaload hB_X12_faults dX12_faults_5
theorem dX12_faults_6 : decode cX12_faults 6 = .ok (.ifCond .ne 7, 3) := by decide +kernel
theorem tX12_faults_6 {d : Nat} {l0 : Option Value} {x : Int32} {m : jmM} {Q : Option Value → jmM → Prop} : AW d 251 6 [l0] [.int x] m Q ↔ if x = 0 then AW d 251 9 [l0] [] m Q else AW d 251 13 [l0] [] m Q := A_if_ne hB_X12_faults dX12_faults_6 (by decide)
theorem dX12_faults_9 : decode cX12_faults 9 = .ok (.iconst (-1), 1) := by decide +kernel
theorem tX12_faults_9 {d : Nat} {l0 : Option Value} {m : jmM} {Q : Option Value → jmM → Prop} : AW d 251 9 [l0] [] m Q ↔ AW d 251 10 [l0] [.int (-1)] m Q := A_iconst hB_X12_faults dX12_faults_9 (by decide)
theorem dX12_faults_10 : decode cX12_faults 10 = .ok (.goto 14, 3) := by decide +kernel
theorem tX12_faults_10 {d : Nat} {l0 : Option Value} {v0 : Value} {m : jmM} {Q : Option Value → jmM → Prop} : AW d 251 10 [l0] [v0] m Q ↔ AW d 251 24 [l0] [v0] m Q := A_goto hB_X12_faults dX12_faults_10 (by decide)
theorem dX12_faults_13 : decode cX12_faults 13 = .ok (.aload_n 0, 1) := by decide +kernel
theorem tX12_faults_13 {d : Nat} {x : Nat} {m : jmM} {Q : Option Value → jmM → Prop} : AW d 251 13 [some (.ref x)] [] m Q ↔ AW d 251 14 [some (.ref x)] [.ref x] m Q := A_aload_n hB_X12_faults dX12_faults_13 rfl
theorem dX12_faults_14 : decode cX12_faults 14 = .ok (.aload_n 0, 1) := by decide +kernel
theorem tX12_faults_14 {d : Nat} {v0 : Value} {x : Nat} {m : jmM} {Q : Option Value → jmM → Prop} : AW d 251 14 [some (.ref x)] [v0] m Q ↔ AW d 251 15 [some (.ref x)] [.ref x, v0] m Q := A_aload_n hB_X12_faults dX12_faults_14 rfl
theorem dX12_faults_15 : decode cX12_faults 15 = .ok (.getfield 51, 3) := by decide +kernel
theorem tX12_faults_15 {d : Nat} {l0 : Option Value} {v1 : Value} {a : Nat} {m : jmM} {Q : Option Value → jmM → Prop} : AW d 251 15 [l0] [.ref a, v1] m Q ↔ (mS m a).1 = 12 ∧ AW d 251 18 [l0] [va_rf (mR m a 25), v1] m Q := A_getfield (f := fun m a => va_rf (mR m a 25)) hB_X12_faults dX12_faults_15 hO_X12_faults fF_12_51 rfl
theorem dX12_faults_18 : decode cX12_faults 18 = .ok (.bipush 15, 2) := by decide +kernel
theorem tX12_faults_18 {d : Nat} {l0 : Option Value} {v0 v1 : Value} {m : jmM} {Q : Option Value → jmM → Prop} : AW d 251 18 [l0] [v0, v1] m Q ↔ AW d 251 20 [l0] [.int 15, v0, v1] m Q := A_bipush hB_X12_faults dX12_faults_18 rfl
theorem dX12_faults_20 : decode cX12_faults 20 = .ok (.iaload, 1) := by decide +kernel
theorem tX12_faults_20 {d : Nat} {l0 : Option Value} {v2 : Value} {i : Int32} {a : Nat} {m : jmM} {Q : Option Value → jmM → Prop} : AW d 251 20 [l0] [.int i, .ref a, v2] m Q ↔ (((mS m a).1 = 20 ∨ a = jScr) ∧ jIx i (mS m a).2) ∧ AW d 251 21 [l0] [.int (mI m a (jx i)), v2] m Q := A_iaload hB_X12_faults dX12_faults_20
theorem dX12_faults_21 : decode cX12_faults 21 = .ok (.invokevirtual 367, 3) := by decide +kernel
theorem tX12_faults_21 {d : Nat} {l0 : Option Value} {y0 : Value} {a : Nat} {m : jmM} {Q : Option Value → jmM → Prop} : AW d 251 21 [l0] [y0, .ref a] m Q ↔ (mS m a).1 = 12 ∧ CC d 249 [.ref a, y0] m (jK d 251 24 [l0] [] Q) := A_callV hB_X12_faults dX12_faults_21 hO_X12_faults fS_12_367 ⟨Nat.le_of_ble_eq_true rfl, Nat.le_of_ble_eq_true rfl⟩ rfl rfl rfl
theorem dX12_faults_24 : decode cX12_faults 24 = .ok (.ireturn, 1) := by decide +kernel
theorem tX12_faults_24 {d : Nat} {l0 : Option Value} {x : Int32} {m : jmM} {Q : Option Value → jmM → Prop} : AW d 251 24 [l0] [.int x] m Q ↔ Q (some (.int x)) m := A_ireturn hB_X12_faults dX12_faults_24 hR_X12_faults
theorem hB_X12_holds : jB 252 = cX12_holds := rfl
theorem hO_X12_holds : jO 252 = 12 := rfl
theorem hR_X12_holds : jRt 252 = (some .int) := rfl
theorem nX12_holds (d : Nat) (x0 : Nat) (m : jmM) (Q : Option Value → jmM → Prop) : CC (d + 1) 252 [.ref x0] m Q ↔ AW d 252 0 [some (.ref x0), none, none, none, none, none, none] [] m Q := CC_body (Nat.le_of_ble_eq_true rfl)
theorem dX12_holds_0 : decode cX12_holds 0 = .ok (.aload_n 0, 1) := by decide +kernel
theorem tX12_holds_0 {d : Nat} {l1 l2 l3 l4 l5 l6 : Option Value} {x : Nat} {m : jmM} {Q : Option Value → jmM → Prop} : AW d 252 0 [some (.ref x), l1, l2, l3, l4, l5, l6] [] m Q ↔ AW d 252 1 [some (.ref x), l1, l2, l3, l4, l5, l6] [.ref x] m Q := A_aload_n hB_X12_holds dX12_holds_0 rfl
theorem dX12_holds_1 : decode cX12_holds 1 = .ok (.getfield 51, 3) := by decide +kernel
theorem tX12_holds_1 {d : Nat} {l0 l1 l2 l3 l4 l5 l6 : Option Value} {a : Nat} {m : jmM} {Q : Option Value → jmM → Prop} : AW d 252 1 [l0, l1, l2, l3, l4, l5, l6] [.ref a] m Q ↔ (mS m a).1 = 12 ∧ AW d 252 4 [l0, l1, l2, l3, l4, l5, l6] [va_rf (mR m a 25)] m Q := A_getfield (f := fun m a => va_rf (mR m a 25)) hB_X12_holds dX12_holds_1 hO_X12_holds fF_12_51 rfl
theorem dX12_holds_4 : decode cX12_holds 4 = .ok (.iconst 0, 1) := by decide +kernel
theorem tX12_holds_4 {d : Nat} {l0 l1 l2 l3 l4 l5 l6 : Option Value} {v0 : Value} {m : jmM} {Q : Option Value → jmM → Prop} : AW d 252 4 [l0, l1, l2, l3, l4, l5, l6] [v0] m Q ↔ AW d 252 5 [l0, l1, l2, l3, l4, l5, l6] [.int 0, v0] m Q := A_iconst hB_X12_holds dX12_holds_4 (by decide)
theorem dX12_holds_5 : decode cX12_holds 5 = .ok (.iaload, 1) := by decide +kernel
theorem tX12_holds_5 {d : Nat} {l0 l1 l2 l3 l4 l5 l6 : Option Value} {i : Int32} {a : Nat} {m : jmM} {Q : Option Value → jmM → Prop} : AW d 252 5 [l0, l1, l2, l3, l4, l5, l6] [.int i, .ref a] m Q ↔ (((mS m a).1 = 20 ∨ a = jScr) ∧ jIx i (mS m a).2) ∧ AW d 252 6 [l0, l1, l2, l3, l4, l5, l6] [.int (mI m a (jx i))] m Q := A_iaload hB_X12_holds dX12_holds_5
theorem dX12_holds_6 : decode cX12_holds 6 = .ok (.ifCond .ne 5, 3) := by decide +kernel
theorem tX12_holds_6 {d : Nat} {l0 l1 l2 l3 l4 l5 l6 : Option Value} {x : Int32} {m : jmM} {Q : Option Value → jmM → Prop} : AW d 252 6 [l0, l1, l2, l3, l4, l5, l6] [.int x] m Q ↔ if x = 0 then AW d 252 9 [l0, l1, l2, l3, l4, l5, l6] [] m Q else AW d 252 11 [l0, l1, l2, l3, l4, l5, l6] [] m Q := A_if_ne hB_X12_holds dX12_holds_6 (by decide)
theorem dX12_holds_9 : decode cX12_holds 9 = .ok (.iconst (-1), 1) := by decide +kernel
theorem tX12_holds_9 {d : Nat} {l0 l1 l2 l3 l4 l5 l6 : Option Value} {m : jmM} {Q : Option Value → jmM → Prop} : AW d 252 9 [l0, l1, l2, l3, l4, l5, l6] [] m Q ↔ AW d 252 10 [l0, l1, l2, l3, l4, l5, l6] [.int (-1)] m Q := A_iconst hB_X12_holds dX12_holds_9 (by decide)
theorem dX12_holds_10 : decode cX12_holds 10 = .ok (.ireturn, 1) := by decide +kernel
theorem tX12_holds_10 {d : Nat} {l0 l1 l2 l3 l4 l5 l6 : Option Value} {x : Int32} {m : jmM} {Q : Option Value → jmM → Prop} : AW d 252 10 [l0, l1, l2, l3, l4, l5, l6] [.int x] m Q ↔ Q (some (.int x)) m := A_ireturn hB_X12_holds dX12_holds_10 hR_X12_holds
theorem dX12_holds_11 : decode cX12_holds 11 = .ok (.iconst (-1), 1) := by decide +kernel
theorem tX12_holds_11 {d : Nat} {l0 l1 l2 l3 l4 l5 l6 : Option Value} {m : jmM} {Q : Option Value → jmM → Prop} : AW d 252 11 [l0, l1, l2, l3, l4, l5, l6] [] m Q ↔ AW d 252 12 [l0, l1, l2, l3, l4, l5, l6] [.int (-1)] m Q := A_iconst hB_X12_holds dX12_holds_11 (by decide)
theorem dX12_holds_12 : decode cX12_holds 12 = .ok (.istore_n 1, 1) := by decide +kernel
theorem tX12_holds_12 {d : Nat} {l0 l1 l2 l3 l4 l5 l6 : Option Value} {x : Int32} {m : jmM} {Q : Option Value → jmM → Prop} : AW d 252 12 [l0, l1, l2, l3, l4, l5, l6] [.int x] m Q ↔ AW d 252 13 [jc1 l0, some (.int x), l2, l3, l4, l5, l6] [] m Q := A_istore_n hB_X12_holds dX12_holds_12 (Nat.le_of_ble_eq_true rfl) rfl
theorem dX12_holds_13 : decode cX12_holds 13 = .ok (.iconst 0, 1) := by decide +kernel
theorem tX12_holds_13 {d : Nat} {l0 l1 l2 l3 l4 l5 l6 : Option Value} {m : jmM} {Q : Option Value → jmM → Prop} : AW d 252 13 [l0, l1, l2, l3, l4, l5, l6] [] m Q ↔ AW d 252 14 [l0, l1, l2, l3, l4, l5, l6] [.int 0] m Q := A_iconst hB_X12_holds dX12_holds_13 (by decide)
theorem dX12_holds_14 : decode cX12_holds 14 = .ok (.istore_n 2, 1) := by decide +kernel
theorem tX12_holds_14 {d : Nat} {l0 l1 l2 l3 l4 l5 l6 : Option Value} {x : Int32} {m : jmM} {Q : Option Value → jmM → Prop} : AW d 252 14 [l0, l1, l2, l3, l4, l5, l6] [.int x] m Q ↔ AW d 252 15 [l0, jc1 l1, some (.int x), l3, l4, l5, l6] [] m Q := A_istore_n hB_X12_holds dX12_holds_14 (Nat.le_of_ble_eq_true rfl) rfl
theorem dX12_holds_15 : decode cX12_holds 15 = .ok (.iload_n 2, 1) := by decide +kernel
theorem tX12_holds_15 {d : Nat} {l0 l1 l3 l4 l5 l6 : Option Value} {x : Int32} {m : jmM} {Q : Option Value → jmM → Prop} : AW d 252 15 [l0, l1, some (.int x), l3, l4, l5, l6] [] m Q ↔ AW d 252 16 [l0, l1, some (.int x), l3, l4, l5, l6] [.int x] m Q := A_iload_n hB_X12_holds dX12_holds_15 rfl
theorem dX12_holds_16 : decode cX12_holds 16 = .ok (.aload_n 0, 1) := by decide +kernel
theorem tX12_holds_16 {d : Nat} {l1 l2 l3 l4 l5 l6 : Option Value} {v0 : Value} {x : Nat} {m : jmM} {Q : Option Value → jmM → Prop} : AW d 252 16 [some (.ref x), l1, l2, l3, l4, l5, l6] [v0] m Q ↔ AW d 252 17 [some (.ref x), l1, l2, l3, l4, l5, l6] [.ref x, v0] m Q := A_aload_n hB_X12_holds dX12_holds_16 rfl
theorem dX12_holds_17 : decode cX12_holds 17 = .ok (.getfield 51, 3) := by decide +kernel
theorem tX12_holds_17 {d : Nat} {l0 l1 l2 l3 l4 l5 l6 : Option Value} {v1 : Value} {a : Nat} {m : jmM} {Q : Option Value → jmM → Prop} : AW d 252 17 [l0, l1, l2, l3, l4, l5, l6] [.ref a, v1] m Q ↔ (mS m a).1 = 12 ∧ AW d 252 20 [l0, l1, l2, l3, l4, l5, l6] [va_rf (mR m a 25), v1] m Q := A_getfield (f := fun m a => va_rf (mR m a 25)) hB_X12_holds dX12_holds_17 hO_X12_holds fF_12_51 rfl
theorem dX12_holds_20 : decode cX12_holds 20 = .ok (.bipush 15, 2) := by decide +kernel
theorem tX12_holds_20 {d : Nat} {l0 l1 l2 l3 l4 l5 l6 : Option Value} {v0 v1 : Value} {m : jmM} {Q : Option Value → jmM → Prop} : AW d 252 20 [l0, l1, l2, l3, l4, l5, l6] [v0, v1] m Q ↔ AW d 252 22 [l0, l1, l2, l3, l4, l5, l6] [.int 15, v0, v1] m Q := A_bipush hB_X12_holds dX12_holds_20 rfl
theorem dX12_holds_22 : decode cX12_holds 22 = .ok (.iaload, 1) := by decide +kernel
theorem tX12_holds_22 {d : Nat} {l0 l1 l2 l3 l4 l5 l6 : Option Value} {v2 : Value} {i : Int32} {a : Nat} {m : jmM} {Q : Option Value → jmM → Prop} : AW d 252 22 [l0, l1, l2, l3, l4, l5, l6] [.int i, .ref a, v2] m Q ↔ (((mS m a).1 = 20 ∨ a = jScr) ∧ jIx i (mS m a).2) ∧ AW d 252 23 [l0, l1, l2, l3, l4, l5, l6] [.int (mI m a (jx i)), v2] m Q := A_iaload hB_X12_holds dX12_holds_22
theorem dX12_holds_23 : decode cX12_holds 23 = .ok (.if_icmp .ge 38, 3) := by decide +kernel
theorem tX12_holds_23 {d : Nat} {l0 l1 l2 l3 l4 l5 l6 : Option Value} {x y : Int32} {m : jmM} {Q : Option Value → jmM → Prop} : AW d 252 23 [l0, l1, l2, l3, l4, l5, l6] [.int y, .int x] m Q ↔ if y ≤ x then AW d 252 61 [l0, l1, l2, l3, l4, l5, l6] [] m Q else AW d 252 26 [l0, l1, l2, l3, l4, l5, l6] [] m Q := A_icmp_ge hB_X12_holds dX12_holds_23 (by decide)
theorem dX12_holds_26 : decode cX12_holds 26 = .ok (.aload_n 0, 1) := by decide +kernel
theorem tX12_holds_26 {d : Nat} {l1 l2 l3 l4 l5 l6 : Option Value} {x : Nat} {m : jmM} {Q : Option Value → jmM → Prop} : AW d 252 26 [some (.ref x), l1, l2, l3, l4, l5, l6] [] m Q ↔ AW d 252 27 [some (.ref x), l1, l2, l3, l4, l5, l6] [.ref x] m Q := A_aload_n hB_X12_holds dX12_holds_26 rfl
theorem dX12_holds_27 : decode cX12_holds 27 = .ok (.iload_n 2, 1) := by decide +kernel
theorem tX12_holds_27 {d : Nat} {l0 l1 l3 l4 l5 l6 : Option Value} {v0 : Value} {x : Int32} {m : jmM} {Q : Option Value → jmM → Prop} : AW d 252 27 [l0, l1, some (.int x), l3, l4, l5, l6] [v0] m Q ↔ AW d 252 28 [l0, l1, some (.int x), l3, l4, l5, l6] [.int x, v0] m Q := A_iload_n hB_X12_holds dX12_holds_27 rfl
theorem dX12_holds_28 : decode cX12_holds 28 = .ok (.invokevirtual 364, 3) := by decide +kernel
theorem tX12_holds_28 {d : Nat} {l0 l1 l2 l3 l4 l5 l6 : Option Value} {y0 : Value} {a : Nat} {m : jmM} {Q : Option Value → jmM → Prop} : AW d 252 28 [l0, l1, l2, l3, l4, l5, l6] [y0, .ref a] m Q ↔ (mS m a).1 = 12 ∧ CC d 248 [.ref a, y0] m (jK d 252 31 [l0, l1, l2, l3, l4, l5, l6] [] Q) := A_callV hB_X12_holds dX12_holds_28 hO_X12_holds fS_12_364 ⟨Nat.le_of_ble_eq_true rfl, Nat.le_of_ble_eq_true rfl⟩ rfl rfl rfl
theorem dX12_holds_31 : decode cX12_holds 31 = .ok (.ifCond .eq 24, 3) := by decide +kernel
theorem tX12_holds_31 {d : Nat} {l0 l1 l2 l3 l4 l5 l6 : Option Value} {x : Int32} {m : jmM} {Q : Option Value → jmM → Prop} : AW d 252 31 [l0, l1, l2, l3, l4, l5, l6] [.int x] m Q ↔ if x = 0 then AW d 252 55 [l0, l1, l2, l3, l4, l5, l6] [] m Q else AW d 252 34 [l0, l1, l2, l3, l4, l5, l6] [] m Q := A_if_eq hB_X12_holds dX12_holds_31 (by decide)
theorem dX12_holds_34 : decode cX12_holds 34 = .ok (.iload_n 1, 1) := by decide +kernel
theorem tX12_holds_34 {d : Nat} {l0 l2 l3 l4 l5 l6 : Option Value} {x : Int32} {m : jmM} {Q : Option Value → jmM → Prop} : AW d 252 34 [l0, some (.int x), l2, l3, l4, l5, l6] [] m Q ↔ AW d 252 35 [l0, some (.int x), l2, l3, l4, l5, l6] [.int x] m Q := A_iload_n hB_X12_holds dX12_holds_34 rfl
theorem dX12_holds_35 : decode cX12_holds 35 = .ok (.ifCond .lt 18, 3) := by decide +kernel
theorem tX12_holds_35 {d : Nat} {l0 l1 l2 l3 l4 l5 l6 : Option Value} {x : Int32} {m : jmM} {Q : Option Value → jmM → Prop} : AW d 252 35 [l0, l1, l2, l3, l4, l5, l6] [.int x] m Q ↔ if x < 0 then AW d 252 53 [l0, l1, l2, l3, l4, l5, l6] [] m Q else AW d 252 38 [l0, l1, l2, l3, l4, l5, l6] [] m Q := A_if_lt hB_X12_holds dX12_holds_35 (by decide)
theorem dX12_holds_38 : decode cX12_holds 38 = .ok (.aload_n 0, 1) := by decide +kernel
theorem tX12_holds_38 {d : Nat} {l1 l2 l3 l4 l5 l6 : Option Value} {x : Nat} {m : jmM} {Q : Option Value → jmM → Prop} : AW d 252 38 [some (.ref x), l1, l2, l3, l4, l5, l6] [] m Q ↔ AW d 252 39 [some (.ref x), l1, l2, l3, l4, l5, l6] [.ref x] m Q := A_aload_n hB_X12_holds dX12_holds_38 rfl
theorem dX12_holds_39 : decode cX12_holds 39 = .ok (.iload_n 2, 1) := by decide +kernel
theorem tX12_holds_39 {d : Nat} {l0 l1 l3 l4 l5 l6 : Option Value} {v0 : Value} {x : Int32} {m : jmM} {Q : Option Value → jmM → Prop} : AW d 252 39 [l0, l1, some (.int x), l3, l4, l5, l6] [v0] m Q ↔ AW d 252 40 [l0, l1, some (.int x), l3, l4, l5, l6] [.int x, v0] m Q := A_iload_n hB_X12_holds dX12_holds_39 rfl
theorem dX12_holds_40 : decode cX12_holds 40 = .ok (.iconst 0, 1) := by decide +kernel
theorem tX12_holds_40 {d : Nat} {l0 l1 l2 l3 l4 l5 l6 : Option Value} {v0 v1 : Value} {m : jmM} {Q : Option Value → jmM → Prop} : AW d 252 40 [l0, l1, l2, l3, l4, l5, l6] [v0, v1] m Q ↔ AW d 252 41 [l0, l1, l2, l3, l4, l5, l6] [.int 0, v0, v1] m Q := A_iconst hB_X12_holds dX12_holds_40 (by decide)
theorem dX12_holds_41 : decode cX12_holds 41 = .ok (.invokevirtual 297, 3) := by decide +kernel
theorem tX12_holds_41 {d : Nat} {l0 l1 l2 l3 l4 l5 l6 : Option Value} {y0 y1 : Value} {a : Nat} {m : jmM} {Q : Option Value → jmM → Prop} : AW d 252 41 [l0, l1, l2, l3, l4, l5, l6] [y0, y1, .ref a] m Q ↔ (mS m a).1 = 12 ∧ CC d 229 [.ref a, y1, y0] m (jK d 252 44 [l0, l1, l2, l3, l4, l5, l6] [] Q) := A_callV hB_X12_holds dX12_holds_41 hO_X12_holds fS_12_297 ⟨Nat.le_of_ble_eq_true rfl, Nat.le_of_ble_eq_true rfl⟩ rfl rfl rfl
theorem dX12_holds_44 : decode cX12_holds 44 = .ok (.aload_n 0, 1) := by decide +kernel
theorem tX12_holds_44 {d : Nat} {l1 l2 l3 l4 l5 l6 : Option Value} {v0 : Value} {x : Nat} {m : jmM} {Q : Option Value → jmM → Prop} : AW d 252 44 [some (.ref x), l1, l2, l3, l4, l5, l6] [v0] m Q ↔ AW d 252 45 [some (.ref x), l1, l2, l3, l4, l5, l6] [.ref x, v0] m Q := A_aload_n hB_X12_holds dX12_holds_44 rfl
theorem dX12_holds_45 : decode cX12_holds 45 = .ok (.iload_n 1, 1) := by decide +kernel
theorem tX12_holds_45 {d : Nat} {l0 l2 l3 l4 l5 l6 : Option Value} {v0 v1 : Value} {x : Int32} {m : jmM} {Q : Option Value → jmM → Prop} : AW d 252 45 [l0, some (.int x), l2, l3, l4, l5, l6] [v0, v1] m Q ↔ AW d 252 46 [l0, some (.int x), l2, l3, l4, l5, l6] [.int x, v0, v1] m Q := A_iload_n hB_X12_holds dX12_holds_45 rfl
theorem dX12_holds_46 : decode cX12_holds 46 = .ok (.iconst 0, 1) := by decide +kernel
theorem tX12_holds_46 {d : Nat} {l0 l1 l2 l3 l4 l5 l6 : Option Value} {v0 v1 v2 : Value} {m : jmM} {Q : Option Value → jmM → Prop} : AW d 252 46 [l0, l1, l2, l3, l4, l5, l6] [v0, v1, v2] m Q ↔ AW d 252 47 [l0, l1, l2, l3, l4, l5, l6] [.int 0, v0, v1, v2] m Q := A_iconst hB_X12_holds dX12_holds_46 (by decide)
theorem dX12_holds_47 : decode cX12_holds 47 = .ok (.invokevirtual 297, 3) := by decide +kernel
theorem tX12_holds_47 {d : Nat} {l0 l1 l2 l3 l4 l5 l6 : Option Value} {v3 : Value} {y0 y1 : Value} {a : Nat} {m : jmM} {Q : Option Value → jmM → Prop} : AW d 252 47 [l0, l1, l2, l3, l4, l5, l6] [y0, y1, .ref a, v3] m Q ↔ (mS m a).1 = 12 ∧ CC d 229 [.ref a, y1, y0] m (jK d 252 50 [l0, l1, l2, l3, l4, l5, l6] [v3] Q) := A_callV hB_X12_holds dX12_holds_47 hO_X12_holds fS_12_297 ⟨Nat.le_of_ble_eq_true rfl, Nat.le_of_ble_eq_true rfl⟩ rfl rfl rfl
theorem dX12_holds_50 : decode cX12_holds 50 = .ok (.if_icmp .ge 5, 3) := by decide +kernel
theorem tX12_holds_50 {d : Nat} {l0 l1 l2 l3 l4 l5 l6 : Option Value} {x y : Int32} {m : jmM} {Q : Option Value → jmM → Prop} : AW d 252 50 [l0, l1, l2, l3, l4, l5, l6] [.int y, .int x] m Q ↔ if y ≤ x then AW d 252 55 [l0, l1, l2, l3, l4, l5, l6] [] m Q else AW d 252 53 [l0, l1, l2, l3, l4, l5, l6] [] m Q := A_icmp_ge hB_X12_holds dX12_holds_50 (by decide)
theorem dX12_holds_53 : decode cX12_holds 53 = .ok (.iload_n 2, 1) := by decide +kernel
theorem tX12_holds_53 {d : Nat} {l0 l1 l3 l4 l5 l6 : Option Value} {x : Int32} {m : jmM} {Q : Option Value → jmM → Prop} : AW d 252 53 [l0, l1, some (.int x), l3, l4, l5, l6] [] m Q ↔ AW d 252 54 [l0, l1, some (.int x), l3, l4, l5, l6] [.int x] m Q := A_iload_n hB_X12_holds dX12_holds_53 rfl
theorem dX12_holds_54 : decode cX12_holds 54 = .ok (.istore_n 1, 1) := by decide +kernel
theorem tX12_holds_54 {d : Nat} {l0 l1 l2 l3 l4 l5 l6 : Option Value} {x : Int32} {m : jmM} {Q : Option Value → jmM → Prop} : AW d 252 54 [l0, l1, l2, l3, l4, l5, l6] [.int x] m Q ↔ AW d 252 55 [jc1 l0, some (.int x), l2, l3, l4, l5, l6] [] m Q := A_istore_n hB_X12_holds dX12_holds_54 (Nat.le_of_ble_eq_true rfl) rfl
theorem dX12_holds_55 : decode cX12_holds 55 = .ok (.iinc 2 1, 3) := by decide +kernel
theorem tX12_holds_55 {d : Nat} {l0 l1 l3 l4 l5 l6 : Option Value} {x : Int32} {m : jmM} {Q : Option Value → jmM → Prop} : AW d 252 55 [l0, l1, some (.int x), l3, l4, l5, l6] [] m Q ↔ AW d 252 58 [l0, jc1 l1, some (.int (x + 1)), l3, l4, l5, l6] [] m Q := A_iinc hB_X12_holds dX12_holds_55 rfl (Nat.le_of_ble_eq_true rfl) (v := 1) (by decide) rfl
theorem dX12_holds_58 : decode cX12_holds 58 = .ok (.goto (-43), 3) := by decide +kernel
theorem tX12_holds_58 {d : Nat} {l0 l1 l2 l3 l4 l5 l6 : Option Value} {m : jmM} {Q : Option Value → jmM → Prop} : AW d 252 58 [l0, l1, l2, l3, l4, l5, l6] [] m Q ↔ AW d 252 15 [l0, l1, l2, l3, l4, l5, l6] [] m Q := A_goto hB_X12_holds dX12_holds_58 (by decide)
theorem dX12_holds_61 : decode cX12_holds 61 = .ok (.iload_n 1, 1) := by decide +kernel
theorem tX12_holds_61 {d : Nat} {l0 l2 l3 l4 l5 l6 : Option Value} {x : Int32} {m : jmM} {Q : Option Value → jmM → Prop} : AW d 252 61 [l0, some (.int x), l2, l3, l4, l5, l6] [] m Q ↔ AW d 252 62 [l0, some (.int x), l2, l3, l4, l5, l6] [.int x] m Q := A_iload_n hB_X12_holds dX12_holds_61 rfl
theorem dX12_holds_62 : decode cX12_holds 62 = .ok (.ifCond .ge 6, 3) := by decide +kernel
theorem tX12_holds_62 {d : Nat} {l0 l1 l2 l3 l4 l5 l6 : Option Value} {x : Int32} {m : jmM} {Q : Option Value → jmM → Prop} : AW d 252 62 [l0, l1, l2, l3, l4, l5, l6] [.int x] m Q ↔ if 0 ≤ x then AW d 252 68 [l0, l1, l2, l3, l4, l5, l6] [] m Q else AW d 252 65 [l0, l1, l2, l3, l4, l5, l6] [] m Q := A_if_ge hB_X12_holds dX12_holds_62 (by decide)
theorem dX12_holds_65 : decode cX12_holds 65 = .ok (.bipush (-2), 2) := by decide +kernel
theorem tX12_holds_65 {d : Nat} {l0 l1 l2 l3 l4 l5 l6 : Option Value} {m : jmM} {Q : Option Value → jmM → Prop} : AW d 252 65 [l0, l1, l2, l3, l4, l5, l6] [] m Q ↔ AW d 252 67 [l0, l1, l2, l3, l4, l5, l6] [.int (-2)] m Q := A_bipush hB_X12_holds dX12_holds_65 rfl
theorem dX12_holds_67 : decode cX12_holds 67 = .ok (.ireturn, 1) := by decide +kernel
theorem tX12_holds_67 {d : Nat} {l0 l1 l2 l3 l4 l5 l6 : Option Value} {x : Int32} {m : jmM} {Q : Option Value → jmM → Prop} : AW d 252 67 [l0, l1, l2, l3, l4, l5, l6] [.int x] m Q ↔ Q (some (.int x)) m := A_ireturn hB_X12_holds dX12_holds_67 hR_X12_holds
theorem dX12_holds_68 : decode cX12_holds 68 = .ok (.aload_n 0, 1) := by decide +kernel
theorem tX12_holds_68 {d : Nat} {l1 l2 l3 l4 l5 l6 : Option Value} {x : Nat} {m : jmM} {Q : Option Value → jmM → Prop} : AW d 252 68 [some (.ref x), l1, l2, l3, l4, l5, l6] [] m Q ↔ AW d 252 69 [some (.ref x), l1, l2, l3, l4, l5, l6] [.ref x] m Q := A_aload_n hB_X12_holds dX12_holds_68 rfl
theorem dX12_holds_69 : decode cX12_holds 69 = .ok (.iload_n 1, 1) := by decide +kernel
theorem tX12_holds_69 {d : Nat} {l0 l2 l3 l4 l5 l6 : Option Value} {v0 : Value} {x : Int32} {m : jmM} {Q : Option Value → jmM → Prop} : AW d 252 69 [l0, some (.int x), l2, l3, l4, l5, l6] [v0] m Q ↔ AW d 252 70 [l0, some (.int x), l2, l3, l4, l5, l6] [.int x, v0] m Q := A_iload_n hB_X12_holds dX12_holds_69 rfl
theorem dX12_holds_70 : decode cX12_holds 70 = .ok (.iconst 0, 1) := by decide +kernel
theorem tX12_holds_70 {d : Nat} {l0 l1 l2 l3 l4 l5 l6 : Option Value} {v0 v1 : Value} {m : jmM} {Q : Option Value → jmM → Prop} : AW d 252 70 [l0, l1, l2, l3, l4, l5, l6] [v0, v1] m Q ↔ AW d 252 71 [l0, l1, l2, l3, l4, l5, l6] [.int 0, v0, v1] m Q := A_iconst hB_X12_holds dX12_holds_70 (by decide)
theorem dX12_holds_71 : decode cX12_holds 71 = .ok (.invokevirtual 297, 3) := by decide +kernel
theorem tX12_holds_71 {d : Nat} {l0 l1 l2 l3 l4 l5 l6 : Option Value} {y0 y1 : Value} {a : Nat} {m : jmM} {Q : Option Value → jmM → Prop} : AW d 252 71 [l0, l1, l2, l3, l4, l5, l6] [y0, y1, .ref a] m Q ↔ (mS m a).1 = 12 ∧ CC d 229 [.ref a, y1, y0] m (jK d 252 74 [l0, l1, l2, l3, l4, l5, l6] [] Q) := A_callV hB_X12_holds dX12_holds_71 hO_X12_holds fS_12_297 ⟨Nat.le_of_ble_eq_true rfl, Nat.le_of_ble_eq_true rfl⟩ rfl rfl rfl
theorem dX12_holds_74 : decode cX12_holds 74 = .ok (.i2l, 1) := by decide +kernel
theorem tX12_holds_74 {d : Nat} {l0 l1 l2 l3 l4 l5 l6 : Option Value} {x : Int32} {m : jmM} {Q : Option Value → jmM → Prop} : AW d 252 74 [l0, l1, l2, l3, l4, l5, l6] [.int x] m Q ↔ AW d 252 75 [l0, l1, l2, l3, l4, l5, l6] [.long x.toInt64] m Q := A_i2l hB_X12_holds dX12_holds_74
theorem dX12_holds_75 : decode cX12_holds 75 = .ok (.aload_n 0, 1) := by decide +kernel
theorem tX12_holds_75 {d : Nat} {l1 l2 l3 l4 l5 l6 : Option Value} {v0 : Value} {x : Nat} {m : jmM} {Q : Option Value → jmM → Prop} : AW d 252 75 [some (.ref x), l1, l2, l3, l4, l5, l6] [v0] m Q ↔ AW d 252 76 [some (.ref x), l1, l2, l3, l4, l5, l6] [.ref x, v0] m Q := A_aload_n hB_X12_holds dX12_holds_75 rfl
theorem dX12_holds_76 : decode cX12_holds 76 = .ok (.iload_n 1, 1) := by decide +kernel
theorem tX12_holds_76 {d : Nat} {l0 l2 l3 l4 l5 l6 : Option Value} {v0 v1 : Value} {x : Int32} {m : jmM} {Q : Option Value → jmM → Prop} : AW d 252 76 [l0, some (.int x), l2, l3, l4, l5, l6] [v0, v1] m Q ↔ AW d 252 77 [l0, some (.int x), l2, l3, l4, l5, l6] [.int x, v0, v1] m Q := A_iload_n hB_X12_holds dX12_holds_76 rfl
theorem dX12_holds_77 : decode cX12_holds 77 = .ok (.iconst 0, 1) := by decide +kernel
theorem tX12_holds_77 {d : Nat} {l0 l1 l2 l3 l4 l5 l6 : Option Value} {v0 v1 v2 : Value} {m : jmM} {Q : Option Value → jmM → Prop} : AW d 252 77 [l0, l1, l2, l3, l4, l5, l6] [v0, v1, v2] m Q ↔ AW d 252 78 [l0, l1, l2, l3, l4, l5, l6] [.int 0, v0, v1, v2] m Q := A_iconst hB_X12_holds dX12_holds_77 (by decide)
theorem dX12_holds_78 : decode cX12_holds 78 = .ok (.invokevirtual 297, 3) := by decide +kernel
theorem tX12_holds_78 {d : Nat} {l0 l1 l2 l3 l4 l5 l6 : Option Value} {v3 : Value} {y0 y1 : Value} {a : Nat} {m : jmM} {Q : Option Value → jmM → Prop} : AW d 252 78 [l0, l1, l2, l3, l4, l5, l6] [y0, y1, .ref a, v3] m Q ↔ (mS m a).1 = 12 ∧ CC d 229 [.ref a, y1, y0] m (jK d 252 81 [l0, l1, l2, l3, l4, l5, l6] [v3] Q) := A_callV hB_X12_holds dX12_holds_78 hO_X12_holds fS_12_297 ⟨Nat.le_of_ble_eq_true rfl, Nat.le_of_ble_eq_true rfl⟩ rfl rfl rfl
theorem dX12_holds_81 : decode cX12_holds 81 = .ok (.i2l, 1) := by decide +kernel
theorem tX12_holds_81 {d : Nat} {l0 l1 l2 l3 l4 l5 l6 : Option Value} {v1 : Value} {x : Int32} {m : jmM} {Q : Option Value → jmM → Prop} : AW d 252 81 [l0, l1, l2, l3, l4, l5, l6] [.int x, v1] m Q ↔ AW d 252 82 [l0, l1, l2, l3, l4, l5, l6] [.long x.toInt64, v1] m Q := A_i2l hB_X12_holds dX12_holds_81
theorem dX12_holds_82 : decode cX12_holds 82 = .ok (.lmul, 1) := by decide +kernel
theorem tX12_holds_82 {d : Nat} {l0 l1 l2 l3 l4 l5 l6 : Option Value} {x y : Int64} {m : jmM} {Q : Option Value → jmM → Prop} : AW d 252 82 [l0, l1, l2, l3, l4, l5, l6] [.long y, .long x] m Q ↔ AW d 252 83 [l0, l1, l2, l3, l4, l5, l6] [.long (x * y)] m Q := A_lmul hB_X12_holds dX12_holds_82
theorem dX12_holds_83 : decode cX12_holds 83 = .ok (.ldc2_w 370, 3) := by decide +kernel
theorem tX12_holds_83 {d : Nat} {l0 l1 l2 l3 l4 l5 l6 : Option Value} {v0 : Value} {m : jmM} {Q : Option Value → jmM → Prop} : AW d 252 83 [l0, l1, l2, l3, l4, l5, l6] [v0] m Q ↔ AW d 252 86 [l0, l1, l2, l3, l4, l5, l6] [.long 10, v0] m Q := A_ldc2_w hB_X12_holds dX12_holds_83 hO_X12_holds fL2_12_370
theorem dX12_holds_86 : decode cX12_holds 86 = .ok (.ldiv, 1) := by decide +kernel
theorem tX12_holds_86 {d : Nat} {l0 l1 l2 l3 l4 l5 l6 : Option Value} {x y : Int64} {m : jmM} {Q : Option Value → jmM → Prop} : AW d 252 86 [l0, l1, l2, l3, l4, l5, l6] [.long y, .long x] m Q ↔ ¬ y = 0 ∧ AW d 252 87 [l0, l1, l2, l3, l4, l5, l6] [.long (x / y)] m Q := A_ldiv hB_X12_holds dX12_holds_86
theorem dX12_holds_87 : decode cX12_holds 87 = .ok (.lstore_n 2, 1) := by decide +kernel
theorem tX12_holds_87 {d : Nat} {l0 l1 l2 l3 l4 l5 l6 : Option Value} {x : Int64} {m : jmM} {Q : Option Value → jmM → Prop} : AW d 252 87 [l0, l1, l2, l3, l4, l5, l6] [.long x] m Q ↔ AW d 252 88 [l0, jc1 l1, some (.long x), none, l4, l5, l6] [] m Q := A_lstore_n hB_X12_holds dX12_holds_87 (Nat.le_of_ble_eq_true rfl) rfl
theorem dX12_holds_88 : decode cX12_holds 88 = .ok (.lconst 0, 1) := by decide +kernel
theorem tX12_holds_88 {d : Nat} {l0 l1 l2 l3 l4 l5 l6 : Option Value} {m : jmM} {Q : Option Value → jmM → Prop} : AW d 252 88 [l0, l1, l2, l3, l4, l5, l6] [] m Q ↔ AW d 252 89 [l0, l1, l2, l3, l4, l5, l6] [.long 0] m Q := A_lconst hB_X12_holds dX12_holds_88 (by decide)
theorem dX12_holds_89 : decode cX12_holds 89 = .ok (.lstore 4, 2) := by decide +kernel
theorem tX12_holds_89 {d : Nat} {l0 l1 l2 l3 l4 l5 l6 : Option Value} {x : Int64} {m : jmM} {Q : Option Value → jmM → Prop} : AW d 252 89 [l0, l1, l2, l3, l4, l5, l6] [.long x] m Q ↔ AW d 252 91 [l0, l1, l2, jc1 l3, some (.long x), none, l6] [] m Q := A_lstore hB_X12_holds dX12_holds_89 (Nat.le_of_ble_eq_true rfl) rfl
theorem dX12_holds_91 : decode cX12_holds 91 = .ok (.iload_n 1, 1) := by decide +kernel
theorem tX12_holds_91 {d : Nat} {l0 l2 l3 l4 l5 l6 : Option Value} {x : Int32} {m : jmM} {Q : Option Value → jmM → Prop} : AW d 252 91 [l0, some (.int x), l2, l3, l4, l5, l6] [] m Q ↔ AW d 252 92 [l0, some (.int x), l2, l3, l4, l5, l6] [.int x] m Q := A_iload_n hB_X12_holds dX12_holds_91 rfl
theorem dX12_holds_92 : decode cX12_holds 92 = .ok (.iconst 1, 1) := by decide +kernel
theorem tX12_holds_92 {d : Nat} {l0 l1 l2 l3 l4 l5 l6 : Option Value} {v0 : Value} {m : jmM} {Q : Option Value → jmM → Prop} : AW d 252 92 [l0, l1, l2, l3, l4, l5, l6] [v0] m Q ↔ AW d 252 93 [l0, l1, l2, l3, l4, l5, l6] [.int 1, v0] m Q := A_iconst hB_X12_holds dX12_holds_92 (by decide)
theorem dX12_holds_93 : decode cX12_holds 93 = .ok (.iadd, 1) := by decide +kernel
theorem tX12_holds_93 {d : Nat} {l0 l1 l2 l3 l4 l5 l6 : Option Value} {x y : Int32} {m : jmM} {Q : Option Value → jmM → Prop} : AW d 252 93 [l0, l1, l2, l3, l4, l5, l6] [.int y, .int x] m Q ↔ AW d 252 94 [l0, l1, l2, l3, l4, l5, l6] [.int (x + y)] m Q := A_iadd hB_X12_holds dX12_holds_93
theorem dX12_holds_94 : decode cX12_holds 94 = .ok (.istore 6, 2) := by decide +kernel
theorem tX12_holds_94 {d : Nat} {l0 l1 l2 l3 l4 l5 l6 : Option Value} {x : Int32} {m : jmM} {Q : Option Value → jmM → Prop} : AW d 252 94 [l0, l1, l2, l3, l4, l5, l6] [.int x] m Q ↔ AW d 252 96 [l0, l1, l2, l3, l4, jc1 l5, some (.int x)] [] m Q := A_istore hB_X12_holds dX12_holds_94 (Nat.le_of_ble_eq_true rfl) rfl
theorem dX12_holds_96 : decode cX12_holds 96 = .ok (.iload 6, 2) := by decide +kernel
theorem tX12_holds_96 {d : Nat} {l0 l1 l2 l3 l4 l5 : Option Value} {x : Int32} {m : jmM} {Q : Option Value → jmM → Prop} : AW d 252 96 [l0, l1, l2, l3, l4, l5, some (.int x)] [] m Q ↔ AW d 252 98 [l0, l1, l2, l3, l4, l5, some (.int x)] [.int x] m Q := A_iload hB_X12_holds dX12_holds_96 rfl
theorem dX12_holds_98 : decode cX12_holds 98 = .ok (.aload_n 0, 1) := by decide +kernel
theorem tX12_holds_98 {d : Nat} {l1 l2 l3 l4 l5 l6 : Option Value} {v0 : Value} {x : Nat} {m : jmM} {Q : Option Value → jmM → Prop} : AW d 252 98 [some (.ref x), l1, l2, l3, l4, l5, l6] [v0] m Q ↔ AW d 252 99 [some (.ref x), l1, l2, l3, l4, l5, l6] [.ref x, v0] m Q := A_aload_n hB_X12_holds dX12_holds_98 rfl
theorem dX12_holds_99 : decode cX12_holds 99 = .ok (.getfield 51, 3) := by decide +kernel
theorem tX12_holds_99 {d : Nat} {l0 l1 l2 l3 l4 l5 l6 : Option Value} {v1 : Value} {a : Nat} {m : jmM} {Q : Option Value → jmM → Prop} : AW d 252 99 [l0, l1, l2, l3, l4, l5, l6] [.ref a, v1] m Q ↔ (mS m a).1 = 12 ∧ AW d 252 102 [l0, l1, l2, l3, l4, l5, l6] [va_rf (mR m a 25), v1] m Q := A_getfield (f := fun m a => va_rf (mR m a 25)) hB_X12_holds dX12_holds_99 hO_X12_holds fF_12_51 rfl
theorem dX12_holds_102 : decode cX12_holds 102 = .ok (.bipush 15, 2) := by decide +kernel
theorem tX12_holds_102 {d : Nat} {l0 l1 l2 l3 l4 l5 l6 : Option Value} {v0 v1 : Value} {m : jmM} {Q : Option Value → jmM → Prop} : AW d 252 102 [l0, l1, l2, l3, l4, l5, l6] [v0, v1] m Q ↔ AW d 252 104 [l0, l1, l2, l3, l4, l5, l6] [.int 15, v0, v1] m Q := A_bipush hB_X12_holds dX12_holds_102 rfl
theorem dX12_holds_104 : decode cX12_holds 104 = .ok (.iaload, 1) := by decide +kernel
theorem tX12_holds_104 {d : Nat} {l0 l1 l2 l3 l4 l5 l6 : Option Value} {v2 : Value} {i : Int32} {a : Nat} {m : jmM} {Q : Option Value → jmM → Prop} : AW d 252 104 [l0, l1, l2, l3, l4, l5, l6] [.int i, .ref a, v2] m Q ↔ (((mS m a).1 = 20 ∨ a = jScr) ∧ jIx i (mS m a).2) ∧ AW d 252 105 [l0, l1, l2, l3, l4, l5, l6] [.int (mI m a (jx i)), v2] m Q := A_iaload hB_X12_holds dX12_holds_104
theorem dX12_holds_105 : decode cX12_holds 105 = .ok (.if_icmp .ge 32, 3) := by decide +kernel
theorem tX12_holds_105 {d : Nat} {l0 l1 l2 l3 l4 l5 l6 : Option Value} {x y : Int32} {m : jmM} {Q : Option Value → jmM → Prop} : AW d 252 105 [l0, l1, l2, l3, l4, l5, l6] [.int y, .int x] m Q ↔ if y ≤ x then AW d 252 137 [l0, l1, l2, l3, l4, l5, l6] [] m Q else AW d 252 108 [l0, l1, l2, l3, l4, l5, l6] [] m Q := A_icmp_ge hB_X12_holds dX12_holds_105 (by decide)
theorem dX12_holds_108 : decode cX12_holds 108 = .ok (.lload 4, 2) := by decide +kernel
theorem tX12_holds_108 {d : Nat} {l0 l1 l2 l3 l5 l6 : Option Value} {x : Int64} {m : jmM} {Q : Option Value → jmM → Prop} : AW d 252 108 [l0, l1, l2, l3, some (.long x), l5, l6] [] m Q ↔ AW d 252 110 [l0, l1, l2, l3, some (.long x), l5, l6] [.long x] m Q := A_lload hB_X12_holds dX12_holds_108 rfl
theorem dX12_holds_110 : decode cX12_holds 110 = .ok (.aload_n 0, 1) := by decide +kernel
theorem tX12_holds_110 {d : Nat} {l1 l2 l3 l4 l5 l6 : Option Value} {v0 : Value} {x : Nat} {m : jmM} {Q : Option Value → jmM → Prop} : AW d 252 110 [some (.ref x), l1, l2, l3, l4, l5, l6] [v0] m Q ↔ AW d 252 111 [some (.ref x), l1, l2, l3, l4, l5, l6] [.ref x, v0] m Q := A_aload_n hB_X12_holds dX12_holds_110 rfl
theorem dX12_holds_111 : decode cX12_holds 111 = .ok (.iload 6, 2) := by decide +kernel
theorem tX12_holds_111 {d : Nat} {l0 l1 l2 l3 l4 l5 : Option Value} {v0 v1 : Value} {x : Int32} {m : jmM} {Q : Option Value → jmM → Prop} : AW d 252 111 [l0, l1, l2, l3, l4, l5, some (.int x)] [v0, v1] m Q ↔ AW d 252 113 [l0, l1, l2, l3, l4, l5, some (.int x)] [.int x, v0, v1] m Q := A_iload hB_X12_holds dX12_holds_111 rfl
theorem dX12_holds_113 : decode cX12_holds 113 = .ok (.iconst 3, 1) := by decide +kernel
theorem tX12_holds_113 {d : Nat} {l0 l1 l2 l3 l4 l5 l6 : Option Value} {v0 v1 v2 : Value} {m : jmM} {Q : Option Value → jmM → Prop} : AW d 252 113 [l0, l1, l2, l3, l4, l5, l6] [v0, v1, v2] m Q ↔ AW d 252 114 [l0, l1, l2, l3, l4, l5, l6] [.int 3, v0, v1, v2] m Q := A_iconst hB_X12_holds dX12_holds_113 (by decide)
theorem dX12_holds_114 : decode cX12_holds 114 = .ok (.invokevirtual 297, 3) := by decide +kernel
theorem tX12_holds_114 {d : Nat} {l0 l1 l2 l3 l4 l5 l6 : Option Value} {v3 : Value} {y0 y1 : Value} {a : Nat} {m : jmM} {Q : Option Value → jmM → Prop} : AW d 252 114 [l0, l1, l2, l3, l4, l5, l6] [y0, y1, .ref a, v3] m Q ↔ (mS m a).1 = 12 ∧ CC d 229 [.ref a, y1, y0] m (jK d 252 117 [l0, l1, l2, l3, l4, l5, l6] [v3] Q) := A_callV hB_X12_holds dX12_holds_114 hO_X12_holds fS_12_297 ⟨Nat.le_of_ble_eq_true rfl, Nat.le_of_ble_eq_true rfl⟩ rfl rfl rfl
theorem dX12_holds_117 : decode cX12_holds 117 = .ok (.i2l, 1) := by decide +kernel
theorem tX12_holds_117 {d : Nat} {l0 l1 l2 l3 l4 l5 l6 : Option Value} {v1 : Value} {x : Int32} {m : jmM} {Q : Option Value → jmM → Prop} : AW d 252 117 [l0, l1, l2, l3, l4, l5, l6] [.int x, v1] m Q ↔ AW d 252 118 [l0, l1, l2, l3, l4, l5, l6] [.long x.toInt64, v1] m Q := A_i2l hB_X12_holds dX12_holds_117
theorem dX12_holds_118 : decode cX12_holds 118 = .ok (.ladd, 1) := by decide +kernel
theorem tX12_holds_118 {d : Nat} {l0 l1 l2 l3 l4 l5 l6 : Option Value} {x y : Int64} {m : jmM} {Q : Option Value → jmM → Prop} : AW d 252 118 [l0, l1, l2, l3, l4, l5, l6] [.long y, .long x] m Q ↔ AW d 252 119 [l0, l1, l2, l3, l4, l5, l6] [.long (x + y)] m Q := A_ladd hB_X12_holds dX12_holds_118
theorem dX12_holds_119 : decode cX12_holds 119 = .ok (.lstore 4, 2) := by decide +kernel
theorem tX12_holds_119 {d : Nat} {l0 l1 l2 l3 l4 l5 l6 : Option Value} {x : Int64} {m : jmM} {Q : Option Value → jmM → Prop} : AW d 252 119 [l0, l1, l2, l3, l4, l5, l6] [.long x] m Q ↔ AW d 252 121 [l0, l1, l2, jc1 l3, some (.long x), none, l6] [] m Q := A_lstore hB_X12_holds dX12_holds_119 (Nat.le_of_ble_eq_true rfl) rfl
theorem dX12_holds_121 : decode cX12_holds 121 = .ok (.lload 4, 2) := by decide +kernel
theorem tX12_holds_121 {d : Nat} {l0 l1 l2 l3 l5 l6 : Option Value} {x : Int64} {m : jmM} {Q : Option Value → jmM → Prop} : AW d 252 121 [l0, l1, l2, l3, some (.long x), l5, l6] [] m Q ↔ AW d 252 123 [l0, l1, l2, l3, some (.long x), l5, l6] [.long x] m Q := A_lload hB_X12_holds dX12_holds_121 rfl
theorem dX12_holds_123 : decode cX12_holds 123 = .ok (.lload_n 2, 1) := by decide +kernel
theorem tX12_holds_123 {d : Nat} {l0 l1 l3 l4 l5 l6 : Option Value} {v0 : Value} {x : Int64} {m : jmM} {Q : Option Value → jmM → Prop} : AW d 252 123 [l0, l1, some (.long x), l3, l4, l5, l6] [v0] m Q ↔ AW d 252 124 [l0, l1, some (.long x), l3, l4, l5, l6] [.long x, v0] m Q := A_lload_n hB_X12_holds dX12_holds_123 rfl
theorem dX12_holds_124 : decode cX12_holds 124 = .ok (.lcmp, 1) := by decide +kernel
theorem tX12_holds_124 {d : Nat} {l0 l1 l2 l3 l4 l5 l6 : Option Value} {x y : Int64} {m : jmM} {Q : Option Value → jmM → Prop} : AW d 252 124 [l0, l1, l2, l3, l4, l5, l6] [.long y, .long x] m Q ↔ AW d 252 125 [l0, l1, l2, l3, l4, l5, l6] [.int (lg_cmp x y)] m Q := A_lcmp hB_X12_holds dX12_holds_124
theorem dX12_holds_125 : decode cX12_holds 125 = .ok (.ifCond .le 6, 3) := by decide +kernel
theorem tX12_holds_125 {d : Nat} {l0 l1 l2 l3 l4 l5 l6 : Option Value} {x : Int32} {m : jmM} {Q : Option Value → jmM → Prop} : AW d 252 125 [l0, l1, l2, l3, l4, l5, l6] [.int x] m Q ↔ if x ≤ 0 then AW d 252 131 [l0, l1, l2, l3, l4, l5, l6] [] m Q else AW d 252 128 [l0, l1, l2, l3, l4, l5, l6] [] m Q := A_if_le hB_X12_holds dX12_holds_125 (by decide)
theorem dX12_holds_128 : decode cX12_holds 128 = .ok (.iload 6, 2) := by decide +kernel
theorem tX12_holds_128 {d : Nat} {l0 l1 l2 l3 l4 l5 : Option Value} {x : Int32} {m : jmM} {Q : Option Value → jmM → Prop} : AW d 252 128 [l0, l1, l2, l3, l4, l5, some (.int x)] [] m Q ↔ AW d 252 130 [l0, l1, l2, l3, l4, l5, some (.int x)] [.int x] m Q := A_iload hB_X12_holds dX12_holds_128 rfl
theorem dX12_holds_130 : decode cX12_holds 130 = .ok (.ireturn, 1) := by decide +kernel
theorem tX12_holds_130 {d : Nat} {l0 l1 l2 l3 l4 l5 l6 : Option Value} {x : Int32} {m : jmM} {Q : Option Value → jmM → Prop} : AW d 252 130 [l0, l1, l2, l3, l4, l5, l6] [.int x] m Q ↔ Q (some (.int x)) m := A_ireturn hB_X12_holds dX12_holds_130 hR_X12_holds
theorem dX12_holds_131 : decode cX12_holds 131 = .ok (.iinc 6 1, 3) := by decide +kernel
theorem tX12_holds_131 {d : Nat} {l0 l1 l2 l3 l4 l5 : Option Value} {x : Int32} {m : jmM} {Q : Option Value → jmM → Prop} : AW d 252 131 [l0, l1, l2, l3, l4, l5, some (.int x)] [] m Q ↔ AW d 252 134 [l0, l1, l2, l3, l4, jc1 l5, some (.int (x + 1))] [] m Q := A_iinc hB_X12_holds dX12_holds_131 rfl (Nat.le_of_ble_eq_true rfl) (v := 1) (by decide) rfl
theorem dX12_holds_134 : decode cX12_holds 134 = .ok (.goto (-38), 3) := by decide +kernel
theorem tX12_holds_134 {d : Nat} {l0 l1 l2 l3 l4 l5 l6 : Option Value} {m : jmM} {Q : Option Value → jmM → Prop} : AW d 252 134 [l0, l1, l2, l3, l4, l5, l6] [] m Q ↔ AW d 252 96 [l0, l1, l2, l3, l4, l5, l6] [] m Q := A_goto hB_X12_holds dX12_holds_134 (by decide)
theorem dX12_holds_137 : decode cX12_holds 137 = .ok (.bipush (-2), 2) := by decide +kernel
theorem tX12_holds_137 {d : Nat} {l0 l1 l2 l3 l4 l5 l6 : Option Value} {m : jmM} {Q : Option Value → jmM → Prop} : AW d 252 137 [l0, l1, l2, l3, l4, l5, l6] [] m Q ↔ AW d 252 139 [l0, l1, l2, l3, l4, l5, l6] [.int (-2)] m Q := A_bipush hB_X12_holds dX12_holds_137 rfl
theorem dX12_holds_139 : decode cX12_holds 139 = .ok (.ireturn, 1) := by decide +kernel
theorem tX12_holds_139 {d : Nat} {l0 l1 l2 l3 l4 l5 l6 : Option Value} {x : Int32} {m : jmM} {Q : Option Value → jmM → Prop} : AW d 252 139 [l0, l1, l2, l3, l4, l5, l6] [.int x] m Q ↔ Q (some (.int x)) m := A_ireturn hB_X12_holds dX12_holds_139 hR_X12_holds
theorem hB_X12_isBody : jB 253 = cX12_isBody := rfl
theorem hO_X12_isBody : jO 253 = 12 := rfl
theorem hR_X12_isBody : jRt 253 = (some .boolean) := rfl
theorem nX12_isBody (d : Nat) (x0 : Nat) (x1 : Int32) (m : jmM) (Q : Option Value → jmM → Prop) : CC (d + 1) 253 [.ref x0, .int x1] m Q ↔ AW d 253 0 [some (.ref x0), some (.int x1), none] [] m Q := CC_body (Nat.le_of_ble_eq_true rfl)
theorem dX12_isBody_0 : decode cX12_isBody 0 = .ok (.aload_n 0, 1) := by decide +kernel
theorem tX12_isBody_0 {d : Nat} {l1 l2 : Option Value} {x : Nat} {m : jmM} {Q : Option Value → jmM → Prop} : AW d 253 0 [some (.ref x), l1, l2] [] m Q ↔ AW d 253 1 [some (.ref x), l1, l2] [.ref x] m Q := A_aload_n hB_X12_isBody dX12_isBody_0 rfl
theorem dX12_isBody_1 : decode cX12_isBody 1 = .ok (.iload_n 1, 1) := by decide +kernel
theorem tX12_isBody_1 {d : Nat} {l0 l2 : Option Value} {v0 : Value} {x : Int32} {m : jmM} {Q : Option Value → jmM → Prop} : AW d 253 1 [l0, some (.int x), l2] [v0] m Q ↔ AW d 253 2 [l0, some (.int x), l2] [.int x, v0] m Q := A_iload_n hB_X12_isBody dX12_isBody_1 rfl
theorem dX12_isBody_2 : decode cX12_isBody 2 = .ok (.iconst 0, 1) := by decide +kernel
theorem tX12_isBody_2 {d : Nat} {l0 l1 l2 : Option Value} {v0 v1 : Value} {m : jmM} {Q : Option Value → jmM → Prop} : AW d 253 2 [l0, l1, l2] [v0, v1] m Q ↔ AW d 253 3 [l0, l1, l2] [.int 0, v0, v1] m Q := A_iconst hB_X12_isBody dX12_isBody_2 (by decide)
theorem dX12_isBody_3 : decode cX12_isBody 3 = .ok (.invokevirtual 297, 3) := by decide +kernel
theorem tX12_isBody_3 {d : Nat} {l0 l1 l2 : Option Value} {y0 y1 : Value} {a : Nat} {m : jmM} {Q : Option Value → jmM → Prop} : AW d 253 3 [l0, l1, l2] [y0, y1, .ref a] m Q ↔ (mS m a).1 = 12 ∧ CC d 229 [.ref a, y1, y0] m (jK d 253 6 [l0, l1, l2] [] Q) := A_callV hB_X12_isBody dX12_isBody_3 hO_X12_isBody fS_12_297 ⟨Nat.le_of_ble_eq_true rfl, Nat.le_of_ble_eq_true rfl⟩ rfl rfl rfl
theorem dX12_isBody_6 : decode cX12_isBody 6 = .ok (.aload_n 0, 1) := by decide +kernel
theorem tX12_isBody_6 {d : Nat} {l1 l2 : Option Value} {v0 : Value} {x : Nat} {m : jmM} {Q : Option Value → jmM → Prop} : AW d 253 6 [some (.ref x), l1, l2] [v0] m Q ↔ AW d 253 7 [some (.ref x), l1, l2] [.ref x, v0] m Q := A_aload_n hB_X12_isBody dX12_isBody_6 rfl
theorem dX12_isBody_7 : decode cX12_isBody 7 = .ok (.getfield 51, 3) := by decide +kernel
theorem tX12_isBody_7 {d : Nat} {l0 l1 l2 : Option Value} {v1 : Value} {a : Nat} {m : jmM} {Q : Option Value → jmM → Prop} : AW d 253 7 [l0, l1, l2] [.ref a, v1] m Q ↔ (mS m a).1 = 12 ∧ AW d 253 10 [l0, l1, l2] [va_rf (mR m a 25), v1] m Q := A_getfield (f := fun m a => va_rf (mR m a 25)) hB_X12_isBody dX12_isBody_7 hO_X12_isBody fF_12_51 rfl
theorem dX12_isBody_10 : decode cX12_isBody 10 = .ok (.iconst 4, 1) := by decide +kernel
theorem tX12_isBody_10 {d : Nat} {l0 l1 l2 : Option Value} {v0 v1 : Value} {m : jmM} {Q : Option Value → jmM → Prop} : AW d 253 10 [l0, l1, l2] [v0, v1] m Q ↔ AW d 253 11 [l0, l1, l2] [.int 4, v0, v1] m Q := A_iconst hB_X12_isBody dX12_isBody_10 (by decide)
theorem dX12_isBody_11 : decode cX12_isBody 11 = .ok (.iaload, 1) := by decide +kernel
theorem tX12_isBody_11 {d : Nat} {l0 l1 l2 : Option Value} {v2 : Value} {i : Int32} {a : Nat} {m : jmM} {Q : Option Value → jmM → Prop} : AW d 253 11 [l0, l1, l2] [.int i, .ref a, v2] m Q ↔ (((mS m a).1 = 20 ∨ a = jScr) ∧ jIx i (mS m a).2) ∧ AW d 253 12 [l0, l1, l2] [.int (mI m a (jx i)), v2] m Q := A_iaload hB_X12_isBody dX12_isBody_11
theorem dX12_isBody_12 : decode cX12_isBody 12 = .ok (.isub, 1) := by decide +kernel
theorem tX12_isBody_12 {d : Nat} {l0 l1 l2 : Option Value} {x y : Int32} {m : jmM} {Q : Option Value → jmM → Prop} : AW d 253 12 [l0, l1, l2] [.int y, .int x] m Q ↔ AW d 253 13 [l0, l1, l2] [.int (x - y)] m Q := A_isub hB_X12_isBody dX12_isBody_12
theorem dX12_isBody_13 : decode cX12_isBody 13 = .ok (.istore_n 2, 1) := by decide +kernel
theorem tX12_isBody_13 {d : Nat} {l0 l1 l2 : Option Value} {x : Int32} {m : jmM} {Q : Option Value → jmM → Prop} : AW d 253 13 [l0, l1, l2] [.int x] m Q ↔ AW d 253 14 [l0, jc1 l1, some (.int x)] [] m Q := A_istore_n hB_X12_isBody dX12_isBody_13 (Nat.le_of_ble_eq_true rfl) rfl
theorem dX12_isBody_14 : decode cX12_isBody 14 = .ok (.aload_n 0, 1) := by decide +kernel
theorem tX12_isBody_14 {d : Nat} {l1 l2 : Option Value} {x : Nat} {m : jmM} {Q : Option Value → jmM → Prop} : AW d 253 14 [some (.ref x), l1, l2] [] m Q ↔ AW d 253 15 [some (.ref x), l1, l2] [.ref x] m Q := A_aload_n hB_X12_isBody dX12_isBody_14 rfl
theorem dX12_isBody_15 : decode cX12_isBody 15 = .ok (.iload_n 1, 1) := by decide +kernel
theorem tX12_isBody_15 {d : Nat} {l0 l2 : Option Value} {v0 : Value} {x : Int32} {m : jmM} {Q : Option Value → jmM → Prop} : AW d 253 15 [l0, some (.int x), l2] [v0] m Q ↔ AW d 253 16 [l0, some (.int x), l2] [.int x, v0] m Q := A_iload_n hB_X12_isBody dX12_isBody_15 rfl
theorem dX12_isBody_16 : decode cX12_isBody 16 = .ok (.invokevirtual 364, 3) := by decide +kernel
theorem tX12_isBody_16 {d : Nat} {l0 l1 l2 : Option Value} {y0 : Value} {a : Nat} {m : jmM} {Q : Option Value → jmM → Prop} : AW d 253 16 [l0, l1, l2] [y0, .ref a] m Q ↔ (mS m a).1 = 12 ∧ CC d 248 [.ref a, y0] m (jK d 253 19 [l0, l1, l2] [] Q) := A_callV hB_X12_isBody dX12_isBody_16 hO_X12_isBody fS_12_364 ⟨Nat.le_of_ble_eq_true rfl, Nat.le_of_ble_eq_true rfl⟩ rfl rfl rfl
theorem dX12_isBody_19 : decode cX12_isBody 19 = .ok (.ifCond .ne 36, 3) := by decide +kernel
theorem tX12_isBody_19 {d : Nat} {l0 l1 l2 : Option Value} {x : Int32} {m : jmM} {Q : Option Value → jmM → Prop} : AW d 253 19 [l0, l1, l2] [.int x] m Q ↔ if x = 0 then AW d 253 22 [l0, l1, l2] [] m Q else AW d 253 55 [l0, l1, l2] [] m Q := A_if_ne hB_X12_isBody dX12_isBody_19 (by decide)
theorem dX12_isBody_22 : decode cX12_isBody 22 = .ok (.iload_n 2, 1) := by decide +kernel
theorem tX12_isBody_22 {d : Nat} {l0 l1 : Option Value} {x : Int32} {m : jmM} {Q : Option Value → jmM → Prop} : AW d 253 22 [l0, l1, some (.int x)] [] m Q ↔ AW d 253 23 [l0, l1, some (.int x)] [.int x] m Q := A_iload_n hB_X12_isBody dX12_isBody_22 rfl
theorem dX12_isBody_23 : decode cX12_isBody 23 = .ok (.i2l, 1) := by decide +kernel
theorem tX12_isBody_23 {d : Nat} {l0 l1 l2 : Option Value} {x : Int32} {m : jmM} {Q : Option Value → jmM → Prop} : AW d 253 23 [l0, l1, l2] [.int x] m Q ↔ AW d 253 24 [l0, l1, l2] [.long x.toInt64] m Q := A_i2l hB_X12_isBody dX12_isBody_23
theorem dX12_isBody_24 : decode cX12_isBody 24 = .ok (.aload_n 0, 1) := by decide +kernel
theorem tX12_isBody_24 {d : Nat} {l1 l2 : Option Value} {v0 : Value} {x : Nat} {m : jmM} {Q : Option Value → jmM → Prop} : AW d 253 24 [some (.ref x), l1, l2] [v0] m Q ↔ AW d 253 25 [some (.ref x), l1, l2] [.ref x, v0] m Q := A_aload_n hB_X12_isBody dX12_isBody_24 rfl
theorem dX12_isBody_25 : decode cX12_isBody 25 = .ok (.getfield 51, 3) := by decide +kernel
theorem tX12_isBody_25 {d : Nat} {l0 l1 l2 : Option Value} {v1 : Value} {a : Nat} {m : jmM} {Q : Option Value → jmM → Prop} : AW d 253 25 [l0, l1, l2] [.ref a, v1] m Q ↔ (mS m a).1 = 12 ∧ AW d 253 28 [l0, l1, l2] [va_rf (mR m a 25), v1] m Q := A_getfield (f := fun m a => va_rf (mR m a 25)) hB_X12_isBody dX12_isBody_25 hO_X12_isBody fF_12_51 rfl
theorem dX12_isBody_28 : decode cX12_isBody 28 = .ok (.iconst 4, 1) := by decide +kernel
theorem tX12_isBody_28 {d : Nat} {l0 l1 l2 : Option Value} {v0 v1 : Value} {m : jmM} {Q : Option Value → jmM → Prop} : AW d 253 28 [l0, l1, l2] [v0, v1] m Q ↔ AW d 253 29 [l0, l1, l2] [.int 4, v0, v1] m Q := A_iconst hB_X12_isBody dX12_isBody_28 (by decide)
theorem dX12_isBody_29 : decode cX12_isBody 29 = .ok (.iaload, 1) := by decide +kernel
theorem tX12_isBody_29 {d : Nat} {l0 l1 l2 : Option Value} {v2 : Value} {i : Int32} {a : Nat} {m : jmM} {Q : Option Value → jmM → Prop} : AW d 253 29 [l0, l1, l2] [.int i, .ref a, v2] m Q ↔ (((mS m a).1 = 20 ∨ a = jScr) ∧ jIx i (mS m a).2) ∧ AW d 253 30 [l0, l1, l2] [.int (mI m a (jx i)), v2] m Q := A_iaload hB_X12_isBody dX12_isBody_29
theorem dX12_isBody_30 : decode cX12_isBody 30 = .ok (.bipush 10, 2) := by decide +kernel
theorem tX12_isBody_30 {d : Nat} {l0 l1 l2 : Option Value} {v0 v1 : Value} {m : jmM} {Q : Option Value → jmM → Prop} : AW d 253 30 [l0, l1, l2] [v0, v1] m Q ↔ AW d 253 32 [l0, l1, l2] [.int 10, v0, v1] m Q := A_bipush hB_X12_isBody dX12_isBody_30 rfl
theorem dX12_isBody_32 : decode cX12_isBody 32 = .ok (.idiv, 1) := by decide +kernel
theorem tX12_isBody_32 {d : Nat} {l0 l1 l2 : Option Value} {v2 : Value} {x y : Int32} {m : jmM} {Q : Option Value → jmM → Prop} : AW d 253 32 [l0, l1, l2] [.int y, .int x, v2] m Q ↔ ¬ y = 0 ∧ AW d 253 33 [l0, l1, l2] [.int (x / y), v2] m Q := A_idiv hB_X12_isBody dX12_isBody_32
theorem dX12_isBody_33 : decode cX12_isBody 33 = .ok (.ineg, 1) := by decide +kernel
theorem tX12_isBody_33 {d : Nat} {l0 l1 l2 : Option Value} {v1 : Value} {x : Int32} {m : jmM} {Q : Option Value → jmM → Prop} : AW d 253 33 [l0, l1, l2] [.int x, v1] m Q ↔ AW d 253 34 [l0, l1, l2] [.int (-x), v1] m Q := A_ineg hB_X12_isBody dX12_isBody_33
theorem dX12_isBody_34 : decode cX12_isBody 34 = .ok (.i2l, 1) := by decide +kernel
theorem tX12_isBody_34 {d : Nat} {l0 l1 l2 : Option Value} {v1 : Value} {x : Int32} {m : jmM} {Q : Option Value → jmM → Prop} : AW d 253 34 [l0, l1, l2] [.int x, v1] m Q ↔ AW d 253 35 [l0, l1, l2] [.long x.toInt64, v1] m Q := A_i2l hB_X12_isBody dX12_isBody_34
theorem dX12_isBody_35 : decode cX12_isBody 35 = .ok (.aload_n 0, 1) := by decide +kernel
theorem tX12_isBody_35 {d : Nat} {l1 l2 : Option Value} {v0 v1 : Value} {x : Nat} {m : jmM} {Q : Option Value → jmM → Prop} : AW d 253 35 [some (.ref x), l1, l2] [v0, v1] m Q ↔ AW d 253 36 [some (.ref x), l1, l2] [.ref x, v0, v1] m Q := A_aload_n hB_X12_isBody dX12_isBody_35 rfl
theorem dX12_isBody_36 : decode cX12_isBody 36 = .ok (.getfield 51, 3) := by decide +kernel
theorem tX12_isBody_36 {d : Nat} {l0 l1 l2 : Option Value} {v1 v2 : Value} {a : Nat} {m : jmM} {Q : Option Value → jmM → Prop} : AW d 253 36 [l0, l1, l2] [.ref a, v1, v2] m Q ↔ (mS m a).1 = 12 ∧ AW d 253 39 [l0, l1, l2] [va_rf (mR m a 25), v1, v2] m Q := A_getfield (f := fun m a => va_rf (mR m a 25)) hB_X12_isBody dX12_isBody_36 hO_X12_isBody fF_12_51 rfl
theorem dX12_isBody_39 : decode cX12_isBody 39 = .ok (.iconst 4, 1) := by decide +kernel
theorem tX12_isBody_39 {d : Nat} {l0 l1 l2 : Option Value} {v0 v1 v2 : Value} {m : jmM} {Q : Option Value → jmM → Prop} : AW d 253 39 [l0, l1, l2] [v0, v1, v2] m Q ↔ AW d 253 40 [l0, l1, l2] [.int 4, v0, v1, v2] m Q := A_iconst hB_X12_isBody dX12_isBody_39 (by decide)
theorem dX12_isBody_40 : decode cX12_isBody 40 = .ok (.iaload, 1) := by decide +kernel
theorem tX12_isBody_40 {d : Nat} {l0 l1 l2 : Option Value} {v2 v3 : Value} {i : Int32} {a : Nat} {m : jmM} {Q : Option Value → jmM → Prop} : AW d 253 40 [l0, l1, l2] [.int i, .ref a, v2, v3] m Q ↔ (((mS m a).1 = 20 ∨ a = jScr) ∧ jIx i (mS m a).2) ∧ AW d 253 41 [l0, l1, l2] [.int (mI m a (jx i)), v2, v3] m Q := A_iaload hB_X12_isBody dX12_isBody_40
theorem dX12_isBody_41 : decode cX12_isBody 41 = .ok (.bipush 10, 2) := by decide +kernel
theorem tX12_isBody_41 {d : Nat} {l0 l1 l2 : Option Value} {v0 v1 v2 : Value} {m : jmM} {Q : Option Value → jmM → Prop} : AW d 253 41 [l0, l1, l2] [v0, v1, v2] m Q ↔ AW d 253 43 [l0, l1, l2] [.int 10, v0, v1, v2] m Q := A_bipush hB_X12_isBody dX12_isBody_41 rfl
theorem dX12_isBody_43 : decode cX12_isBody 43 = .ok (.idiv, 1) := by decide +kernel
theorem tX12_isBody_43 {d : Nat} {l0 l1 l2 : Option Value} {v2 v3 : Value} {x y : Int32} {m : jmM} {Q : Option Value → jmM → Prop} : AW d 253 43 [l0, l1, l2] [.int y, .int x, v2, v3] m Q ↔ ¬ y = 0 ∧ AW d 253 44 [l0, l1, l2] [.int (x / y), v2, v3] m Q := A_idiv hB_X12_isBody dX12_isBody_43
theorem dX12_isBody_44 : decode cX12_isBody 44 = .ok (.i2l, 1) := by decide +kernel
theorem tX12_isBody_44 {d : Nat} {l0 l1 l2 : Option Value} {v1 v2 : Value} {x : Int32} {m : jmM} {Q : Option Value → jmM → Prop} : AW d 253 44 [l0, l1, l2] [.int x, v1, v2] m Q ↔ AW d 253 45 [l0, l1, l2] [.long x.toInt64, v1, v2] m Q := A_i2l hB_X12_isBody dX12_isBody_44
theorem dX12_isBody_45 : decode cX12_isBody 45 = .ok (.invokestatic 281, 3) := by decide +kernel
theorem tX12_isBody_45 {d : Nat} {l0 l1 l2 : Option Value} {y0 y1 y2 : Value} {m : jmM} {Q : Option Value → jmM → Prop} : AW d 253 45 [l0, l1, l2] [y0, y1, y2] m Q ↔ CC d 189 [y2, y1, y0] m (jK d 253 48 [l0, l1, l2] [] Q) := A_callS0 hB_X12_isBody dX12_isBody_45 hO_X12_isBody fS_12_281 ⟨Nat.le_of_ble_eq_true rfl, Nat.le_of_ble_eq_true rfl⟩ rfl rfl
theorem dX12_isBody_48 : decode cX12_isBody 48 = .ok (.ifCond .eq 7, 3) := by decide +kernel
theorem tX12_isBody_48 {d : Nat} {l0 l1 l2 : Option Value} {x : Int32} {m : jmM} {Q : Option Value → jmM → Prop} : AW d 253 48 [l0, l1, l2] [.int x] m Q ↔ if x = 0 then AW d 253 55 [l0, l1, l2] [] m Q else AW d 253 51 [l0, l1, l2] [] m Q := A_if_eq hB_X12_isBody dX12_isBody_48 (by decide)
theorem dX12_isBody_51 : decode cX12_isBody 51 = .ok (.iconst 1, 1) := by decide +kernel
theorem tX12_isBody_51 {d : Nat} {l0 l1 l2 : Option Value} {m : jmM} {Q : Option Value → jmM → Prop} : AW d 253 51 [l0, l1, l2] [] m Q ↔ AW d 253 52 [l0, l1, l2] [.int 1] m Q := A_iconst hB_X12_isBody dX12_isBody_51 (by decide)
theorem dX12_isBody_52 : decode cX12_isBody 52 = .ok (.goto 4, 3) := by decide +kernel
theorem tX12_isBody_52 {d : Nat} {l0 l1 l2 : Option Value} {v0 : Value} {m : jmM} {Q : Option Value → jmM → Prop} : AW d 253 52 [l0, l1, l2] [v0] m Q ↔ AW d 253 56 [l0, l1, l2] [v0] m Q := A_goto hB_X12_isBody dX12_isBody_52 (by decide)
theorem dX12_isBody_55 : decode cX12_isBody 55 = .ok (.iconst 0, 1) := by decide +kernel
theorem tX12_isBody_55 {d : Nat} {l0 l1 l2 : Option Value} {m : jmM} {Q : Option Value → jmM → Prop} : AW d 253 55 [l0, l1, l2] [] m Q ↔ AW d 253 56 [l0, l1, l2] [.int 0] m Q := A_iconst hB_X12_isBody dX12_isBody_55 (by decide)
theorem dX12_isBody_56 : decode cX12_isBody 56 = .ok (.ireturn, 1) := by decide +kernel
theorem tX12_isBody_56 {d : Nat} {l0 l1 l2 : Option Value} {x : Int32} {m : jmM} {Q : Option Value → jmM → Prop} : AW d 253 56 [l0, l1, l2] [.int x] m Q ↔ jBool x ∧ Q (some (.int x)) m := A_zreturn hB_X12_isBody dX12_isBody_56 hR_X12_isBody
theorem hB_X12_kind : jB 254 = cX12_kind := rfl
theorem hO_X12_kind : jO 254 = 12 := rfl
theorem hR_X12_kind : jRt 254 = (some .int) := rfl
theorem nX12_kind (d : Nat) (x0 : Nat) (x1 : Int32) (m : jmM) (Q : Option Value → jmM → Prop) : CC (d + 1) 254 [.ref x0, .int x1] m Q ↔ AW d 254 0 [some (.ref x0), some (.int x1), none] [] m Q := CC_body (Nat.le_of_ble_eq_true rfl)
theorem dX12_kind_0 : decode cX12_kind 0 = .ok (.aload_n 0, 1) := by decide +kernel
theorem tX12_kind_0 {d : Nat} {l1 l2 : Option Value} {x : Nat} {m : jmM} {Q : Option Value → jmM → Prop} : AW d 254 0 [some (.ref x), l1, l2] [] m Q ↔ AW d 254 1 [some (.ref x), l1, l2] [.ref x] m Q := A_aload_n hB_X12_kind dX12_kind_0 rfl
theorem dX12_kind_1 : decode cX12_kind 1 = .ok (.iload_n 1, 1) := by decide +kernel
theorem tX12_kind_1 {d : Nat} {l0 l2 : Option Value} {v0 : Value} {x : Int32} {m : jmM} {Q : Option Value → jmM → Prop} : AW d 254 1 [l0, some (.int x), l2] [v0] m Q ↔ AW d 254 2 [l0, some (.int x), l2] [.int x, v0] m Q := A_iload_n hB_X12_kind dX12_kind_1 rfl
theorem dX12_kind_2 : decode cX12_kind 2 = .ok (.invokevirtual 364, 3) := by decide +kernel
theorem tX12_kind_2 {d : Nat} {l0 l1 l2 : Option Value} {y0 : Value} {a : Nat} {m : jmM} {Q : Option Value → jmM → Prop} : AW d 254 2 [l0, l1, l2] [y0, .ref a] m Q ↔ (mS m a).1 = 12 ∧ CC d 248 [.ref a, y0] m (jK d 254 5 [l0, l1, l2] [] Q) := A_callV hB_X12_kind dX12_kind_2 hO_X12_kind fS_12_364 ⟨Nat.le_of_ble_eq_true rfl, Nat.le_of_ble_eq_true rfl⟩ rfl rfl rfl
theorem dX12_kind_5 : decode cX12_kind 5 = .ok (.ifCond .eq 5, 3) := by decide +kernel
theorem tX12_kind_5 {d : Nat} {l0 l1 l2 : Option Value} {x : Int32} {m : jmM} {Q : Option Value → jmM → Prop} : AW d 254 5 [l0, l1, l2] [.int x] m Q ↔ if x = 0 then AW d 254 10 [l0, l1, l2] [] m Q else AW d 254 8 [l0, l1, l2] [] m Q := A_if_eq hB_X12_kind dX12_kind_5 (by decide)
theorem dX12_kind_8 : decode cX12_kind 8 = .ok (.iconst 0, 1) := by decide +kernel
theorem tX12_kind_8 {d : Nat} {l0 l1 l2 : Option Value} {m : jmM} {Q : Option Value → jmM → Prop} : AW d 254 8 [l0, l1, l2] [] m Q ↔ AW d 254 9 [l0, l1, l2] [.int 0] m Q := A_iconst hB_X12_kind dX12_kind_8 (by decide)
theorem dX12_kind_9 : decode cX12_kind 9 = .ok (.ireturn, 1) := by decide +kernel
theorem tX12_kind_9 {d : Nat} {l0 l1 l2 : Option Value} {x : Int32} {m : jmM} {Q : Option Value → jmM → Prop} : AW d 254 9 [l0, l1, l2] [.int x] m Q ↔ Q (some (.int x)) m := A_ireturn hB_X12_kind dX12_kind_9 hR_X12_kind
theorem dX12_kind_10 : decode cX12_kind 10 = .ok (.aload_n 0, 1) := by decide +kernel
theorem tX12_kind_10 {d : Nat} {l1 l2 : Option Value} {x : Nat} {m : jmM} {Q : Option Value → jmM → Prop} : AW d 254 10 [some (.ref x), l1, l2] [] m Q ↔ AW d 254 11 [some (.ref x), l1, l2] [.ref x] m Q := A_aload_n hB_X12_kind dX12_kind_10 rfl
theorem dX12_kind_11 : decode cX12_kind 11 = .ok (.iload_n 1, 1) := by decide +kernel
theorem tX12_kind_11 {d : Nat} {l0 l2 : Option Value} {v0 : Value} {x : Int32} {m : jmM} {Q : Option Value → jmM → Prop} : AW d 254 11 [l0, some (.int x), l2] [v0] m Q ↔ AW d 254 12 [l0, some (.int x), l2] [.int x, v0] m Q := A_iload_n hB_X12_kind dX12_kind_11 rfl
theorem dX12_kind_12 : decode cX12_kind 12 = .ok (.invokevirtual 372, 3) := by decide +kernel
theorem tX12_kind_12 {d : Nat} {l0 l1 l2 : Option Value} {y0 : Value} {a : Nat} {m : jmM} {Q : Option Value → jmM → Prop} : AW d 254 12 [l0, l1, l2] [y0, .ref a] m Q ↔ (mS m a).1 = 12 ∧ CC d 253 [.ref a, y0] m (jK d 254 15 [l0, l1, l2] [] Q) := A_callV hB_X12_kind dX12_kind_12 hO_X12_kind fS_12_372 ⟨Nat.le_of_ble_eq_true rfl, Nat.le_of_ble_eq_true rfl⟩ rfl rfl rfl
theorem dX12_kind_15 : decode cX12_kind 15 = .ok (.ifCond .eq 5, 3) := by decide +kernel
theorem tX12_kind_15 {d : Nat} {l0 l1 l2 : Option Value} {x : Int32} {m : jmM} {Q : Option Value → jmM → Prop} : AW d 254 15 [l0, l1, l2] [.int x] m Q ↔ if x = 0 then AW d 254 20 [l0, l1, l2] [] m Q else AW d 254 18 [l0, l1, l2] [] m Q := A_if_eq hB_X12_kind dX12_kind_15 (by decide)
theorem dX12_kind_18 : decode cX12_kind 18 = .ok (.iconst 2, 1) := by decide +kernel
theorem tX12_kind_18 {d : Nat} {l0 l1 l2 : Option Value} {m : jmM} {Q : Option Value → jmM → Prop} : AW d 254 18 [l0, l1, l2] [] m Q ↔ AW d 254 19 [l0, l1, l2] [.int 2] m Q := A_iconst hB_X12_kind dX12_kind_18 (by decide)
theorem dX12_kind_19 : decode cX12_kind 19 = .ok (.ireturn, 1) := by decide +kernel
theorem tX12_kind_19 {d : Nat} {l0 l1 l2 : Option Value} {x : Int32} {m : jmM} {Q : Option Value → jmM → Prop} : AW d 254 19 [l0, l1, l2] [.int x] m Q ↔ Q (some (.int x)) m := A_ireturn hB_X12_kind dX12_kind_19 hR_X12_kind
theorem dX12_kind_20 : decode cX12_kind 20 = .ok (.iconst 0, 1) := by decide +kernel
theorem tX12_kind_20 {d : Nat} {l0 l1 l2 : Option Value} {m : jmM} {Q : Option Value → jmM → Prop} : AW d 254 20 [l0, l1, l2] [] m Q ↔ AW d 254 21 [l0, l1, l2] [.int 0] m Q := A_iconst hB_X12_kind dX12_kind_20 (by decide)
theorem dX12_kind_21 : decode cX12_kind 21 = .ok (.istore_n 2, 1) := by decide +kernel
theorem tX12_kind_21 {d : Nat} {l0 l1 l2 : Option Value} {x : Int32} {m : jmM} {Q : Option Value → jmM → Prop} : AW d 254 21 [l0, l1, l2] [.int x] m Q ↔ AW d 254 22 [l0, jc1 l1, some (.int x)] [] m Q := A_istore_n hB_X12_kind dX12_kind_21 (Nat.le_of_ble_eq_true rfl) rfl
theorem dX12_kind_22 : decode cX12_kind 22 = .ok (.iload_n 2, 1) := by decide +kernel
theorem tX12_kind_22 {d : Nat} {l0 l1 : Option Value} {x : Int32} {m : jmM} {Q : Option Value → jmM → Prop} : AW d 254 22 [l0, l1, some (.int x)] [] m Q ↔ AW d 254 23 [l0, l1, some (.int x)] [.int x] m Q := A_iload_n hB_X12_kind dX12_kind_22 rfl
theorem dX12_kind_23 : decode cX12_kind 23 = .ok (.iload_n 1, 1) := by decide +kernel
theorem tX12_kind_23 {d : Nat} {l0 l2 : Option Value} {v0 : Value} {x : Int32} {m : jmM} {Q : Option Value → jmM → Prop} : AW d 254 23 [l0, some (.int x), l2] [v0] m Q ↔ AW d 254 24 [l0, some (.int x), l2] [.int x, v0] m Q := A_iload_n hB_X12_kind dX12_kind_23 rfl
theorem dX12_kind_24 : decode cX12_kind 24 = .ok (.if_icmp .ge 19, 3) := by decide +kernel
theorem tX12_kind_24 {d : Nat} {l0 l1 l2 : Option Value} {x y : Int32} {m : jmM} {Q : Option Value → jmM → Prop} : AW d 254 24 [l0, l1, l2] [.int y, .int x] m Q ↔ if y ≤ x then AW d 254 43 [l0, l1, l2] [] m Q else AW d 254 27 [l0, l1, l2] [] m Q := A_icmp_ge hB_X12_kind dX12_kind_24 (by decide)
theorem dX12_kind_27 : decode cX12_kind 27 = .ok (.aload_n 0, 1) := by decide +kernel
theorem tX12_kind_27 {d : Nat} {l1 l2 : Option Value} {x : Nat} {m : jmM} {Q : Option Value → jmM → Prop} : AW d 254 27 [some (.ref x), l1, l2] [] m Q ↔ AW d 254 28 [some (.ref x), l1, l2] [.ref x] m Q := A_aload_n hB_X12_kind dX12_kind_27 rfl
theorem dX12_kind_28 : decode cX12_kind 28 = .ok (.iload_n 2, 1) := by decide +kernel
theorem tX12_kind_28 {d : Nat} {l0 l1 : Option Value} {v0 : Value} {x : Int32} {m : jmM} {Q : Option Value → jmM → Prop} : AW d 254 28 [l0, l1, some (.int x)] [v0] m Q ↔ AW d 254 29 [l0, l1, some (.int x)] [.int x, v0] m Q := A_iload_n hB_X12_kind dX12_kind_28 rfl
theorem dX12_kind_29 : decode cX12_kind 29 = .ok (.invokevirtual 372, 3) := by decide +kernel
theorem tX12_kind_29 {d : Nat} {l0 l1 l2 : Option Value} {y0 : Value} {a : Nat} {m : jmM} {Q : Option Value → jmM → Prop} : AW d 254 29 [l0, l1, l2] [y0, .ref a] m Q ↔ (mS m a).1 = 12 ∧ CC d 253 [.ref a, y0] m (jK d 254 32 [l0, l1, l2] [] Q) := A_callV hB_X12_kind dX12_kind_29 hO_X12_kind fS_12_372 ⟨Nat.le_of_ble_eq_true rfl, Nat.le_of_ble_eq_true rfl⟩ rfl rfl rfl
theorem dX12_kind_32 : decode cX12_kind 32 = .ok (.ifCond .eq 5, 3) := by decide +kernel
theorem tX12_kind_32 {d : Nat} {l0 l1 l2 : Option Value} {x : Int32} {m : jmM} {Q : Option Value → jmM → Prop} : AW d 254 32 [l0, l1, l2] [.int x] m Q ↔ if x = 0 then AW d 254 37 [l0, l1, l2] [] m Q else AW d 254 35 [l0, l1, l2] [] m Q := A_if_eq hB_X12_kind dX12_kind_32 (by decide)
theorem dX12_kind_35 : decode cX12_kind 35 = .ok (.iconst 3, 1) := by decide +kernel
theorem tX12_kind_35 {d : Nat} {l0 l1 l2 : Option Value} {m : jmM} {Q : Option Value → jmM → Prop} : AW d 254 35 [l0, l1, l2] [] m Q ↔ AW d 254 36 [l0, l1, l2] [.int 3] m Q := A_iconst hB_X12_kind dX12_kind_35 (by decide)
theorem dX12_kind_36 : decode cX12_kind 36 = .ok (.ireturn, 1) := by decide +kernel
theorem tX12_kind_36 {d : Nat} {l0 l1 l2 : Option Value} {x : Int32} {m : jmM} {Q : Option Value → jmM → Prop} : AW d 254 36 [l0, l1, l2] [.int x] m Q ↔ Q (some (.int x)) m := A_ireturn hB_X12_kind dX12_kind_36 hR_X12_kind
theorem dX12_kind_37 : decode cX12_kind 37 = .ok (.iinc 2 1, 3) := by decide +kernel
theorem tX12_kind_37 {d : Nat} {l0 l1 : Option Value} {x : Int32} {m : jmM} {Q : Option Value → jmM → Prop} : AW d 254 37 [l0, l1, some (.int x)] [] m Q ↔ AW d 254 40 [l0, jc1 l1, some (.int (x + 1))] [] m Q := A_iinc hB_X12_kind dX12_kind_37 rfl (Nat.le_of_ble_eq_true rfl) (v := 1) (by decide) rfl
theorem dX12_kind_40 : decode cX12_kind 40 = .ok (.goto (-18), 3) := by decide +kernel
theorem tX12_kind_40 {d : Nat} {l0 l1 l2 : Option Value} {m : jmM} {Q : Option Value → jmM → Prop} : AW d 254 40 [l0, l1, l2] [] m Q ↔ AW d 254 22 [l0, l1, l2] [] m Q := A_goto hB_X12_kind dX12_kind_40 (by decide)
theorem dX12_kind_43 : decode cX12_kind 43 = .ok (.iconst 1, 1) := by decide +kernel
theorem tX12_kind_43 {d : Nat} {l0 l1 l2 : Option Value} {m : jmM} {Q : Option Value → jmM → Prop} : AW d 254 43 [l0, l1, l2] [] m Q ↔ AW d 254 44 [l0, l1, l2] [.int 1] m Q := A_iconst hB_X12_kind dX12_kind_43 (by decide)
theorem dX12_kind_44 : decode cX12_kind 44 = .ok (.ireturn, 1) := by decide +kernel
theorem tX12_kind_44 {d : Nat} {l0 l1 l2 : Option Value} {x : Int32} {m : jmM} {Q : Option Value → jmM → Prop} : AW d 254 44 [l0, l1, l2] [.int x] m Q ↔ Q (some (.int x)) m := A_ireturn hB_X12_kind dX12_kind_44 hR_X12_kind
theorem hB_X12_row : jB 255 = cX12_row := rfl
theorem hO_X12_row : jO 255 = 12 := rfl
theorem hR_X12_row : jRt 255 = (some .int) := rfl
theorem nX12_row (d : Nat) (x0 : Nat) (x1 : Int32) (x2 : Int32) (m : jmM) (Q : Option Value → jmM → Prop) : CC (d + 1) 255 [.ref x0, .int x1, .int x2] m Q ↔ AW d 255 0 [some (.ref x0), some (.int x1), some (.int x2)] [] m Q := CC_body (Nat.le_of_ble_eq_true rfl)
theorem dX12_row_0 : decode cX12_row 0 = .ok (.aload_n 0, 1) := by decide +kernel
theorem tX12_row_0 {d : Nat} {l1 l2 : Option Value} {x : Nat} {m : jmM} {Q : Option Value → jmM → Prop} : AW d 255 0 [some (.ref x), l1, l2] [] m Q ↔ AW d 255 1 [some (.ref x), l1, l2] [.ref x] m Q := A_aload_n hB_X12_row dX12_row_0 rfl
theorem dX12_row_1 : decode cX12_row 1 = .ok (.iload_n 1, 1) := by decide +kernel
theorem tX12_row_1 {d : Nat} {l0 l2 : Option Value} {v0 : Value} {x : Int32} {m : jmM} {Q : Option Value → jmM → Prop} : AW d 255 1 [l0, some (.int x), l2] [v0] m Q ↔ AW d 255 2 [l0, some (.int x), l2] [.int x, v0] m Q := A_iload_n hB_X12_row dX12_row_1 rfl
theorem dX12_row_2 : decode cX12_row 2 = .ok (.invokevirtual 358, 3) := by decide +kernel
theorem tX12_row_2 {d : Nat} {l0 l1 l2 : Option Value} {y0 : Value} {a : Nat} {m : jmM} {Q : Option Value → jmM → Prop} : AW d 255 2 [l0, l1, l2] [y0, .ref a] m Q ↔ (mS m a).1 = 12 ∧ CC d 230 [.ref a, y0] m (jK d 255 5 [l0, l1, l2] [] Q) := A_callV hB_X12_row dX12_row_2 hO_X12_row fS_12_358 ⟨Nat.le_of_ble_eq_true rfl, Nat.le_of_ble_eq_true rfl⟩ rfl rfl rfl
theorem dX12_row_5 : decode cX12_row 5 = .ok (.ifCond .ne 5, 3) := by decide +kernel
theorem tX12_row_5 {d : Nat} {l0 l1 l2 : Option Value} {x : Int32} {m : jmM} {Q : Option Value → jmM → Prop} : AW d 255 5 [l0, l1, l2] [.int x] m Q ↔ if x = 0 then AW d 255 8 [l0, l1, l2] [] m Q else AW d 255 10 [l0, l1, l2] [] m Q := A_if_ne hB_X12_row dX12_row_5 (by decide)
theorem dX12_row_8 : decode cX12_row 8 = .ok (.iconst (-1), 1) := by decide +kernel
theorem tX12_row_8 {d : Nat} {l0 l1 l2 : Option Value} {m : jmM} {Q : Option Value → jmM → Prop} : AW d 255 8 [l0, l1, l2] [] m Q ↔ AW d 255 9 [l0, l1, l2] [.int (-1)] m Q := A_iconst hB_X12_row dX12_row_8 (by decide)
theorem dX12_row_9 : decode cX12_row 9 = .ok (.ireturn, 1) := by decide +kernel
theorem tX12_row_9 {d : Nat} {l0 l1 l2 : Option Value} {x : Int32} {m : jmM} {Q : Option Value → jmM → Prop} : AW d 255 9 [l0, l1, l2] [.int x] m Q ↔ Q (some (.int x)) m := A_ireturn hB_X12_row dX12_row_9 hR_X12_row
theorem dX12_row_10 : decode cX12_row 10 = .ok (.iload_n 2, 1) := by decide +kernel
theorem tX12_row_10 {d : Nat} {l0 l1 : Option Value} {x : Int32} {m : jmM} {Q : Option Value → jmM → Prop} : AW d 255 10 [l0, l1, some (.int x)] [] m Q ↔ AW d 255 11 [l0, l1, some (.int x)] [.int x] m Q := A_iload_n hB_X12_row dX12_row_10 rfl
theorem dX12_row_11 : decode cX12_row 11 = .ok (.tableswitch 103 0 6 #[41, 48, 55, 62, 69, 75, 89], 41) := by decide +kernel
theorem tX12_row_11 {d : Nat} {l0 l1 l2 : Option Value} {x : Int32} {m : jmM} {Q : Option Value → jmM → Prop} : AW d 255 11 [l0, l1, l2] [.int x] m Q ↔ if x = 0 then AW d 255 52 [l0, l1, l2] [] m Q else if x = 1 then AW d 255 59 [l0, l1, l2] [] m Q else if x = 2 then AW d 255 66 [l0, l1, l2] [] m Q else if x = 3 then AW d 255 73 [l0, l1, l2] [] m Q else if x = 4 then AW d 255 80 [l0, l1, l2] [] m Q else if x = 5 then AW d 255 86 [l0, l1, l2] [] m Q else if x = 6 then AW d 255 100 [l0, l1, l2] [] m Q else AW d 255 114 [l0, l1, l2] [] m Q := by
  by_cases h0 : x = 0
  · subst h0; rw [if_pos rfl]; exact A_switch hB_X12_row dX12_row_11 (by decide) (by decide)
  rw [if_neg h0]
  have e0 := i32_ne (n := 0) (by decide) h0
  by_cases h1 : x = 1
  · subst h1; rw [if_pos rfl]; exact A_switch hB_X12_row dX12_row_11 (by decide) (by decide)
  rw [if_neg h1]
  have e1 := i32_ne (n := 1) (by decide) h1
  by_cases h2 : x = 2
  · subst h2; rw [if_pos rfl]; exact A_switch hB_X12_row dX12_row_11 (by decide) (by decide)
  rw [if_neg h2]
  have e2 := i32_ne (n := 2) (by decide) h2
  by_cases h3 : x = 3
  · subst h3; rw [if_pos rfl]; exact A_switch hB_X12_row dX12_row_11 (by decide) (by decide)
  rw [if_neg h3]
  have e3 := i32_ne (n := 3) (by decide) h3
  by_cases h4 : x = 4
  · subst h4; rw [if_pos rfl]; exact A_switch hB_X12_row dX12_row_11 (by decide) (by decide)
  rw [if_neg h4]
  have e4 := i32_ne (n := 4) (by decide) h4
  by_cases h5 : x = 5
  · subst h5; rw [if_pos rfl]; exact A_switch hB_X12_row dX12_row_11 (by decide) (by decide)
  rw [if_neg h5]
  have e5 := i32_ne (n := 5) (by decide) h5
  by_cases h6 : x = 6
  · subst h6; rw [if_pos rfl]; exact A_switch hB_X12_row dX12_row_11 (by decide) (by decide)
  rw [if_neg h6]
  have e6 := i32_ne (n := 6) (by decide) h6
  exact A_switch hB_X12_row dX12_row_11 (t := 114) (by decide) (by unfold jsw; rw [if_pos (by omega)]; rfl)
theorem dX12_row_52 : decode cX12_row 52 = .ok (.aload_n 0, 1) := by decide +kernel
theorem tX12_row_52 {d : Nat} {l1 l2 : Option Value} {x : Nat} {m : jmM} {Q : Option Value → jmM → Prop} : AW d 255 52 [some (.ref x), l1, l2] [] m Q ↔ AW d 255 53 [some (.ref x), l1, l2] [.ref x] m Q := A_aload_n hB_X12_row dX12_row_52 rfl
theorem dX12_row_53 : decode cX12_row 53 = .ok (.iload_n 1, 1) := by decide +kernel
theorem tX12_row_53 {d : Nat} {l0 l2 : Option Value} {v0 : Value} {x : Int32} {m : jmM} {Q : Option Value → jmM → Prop} : AW d 255 53 [l0, some (.int x), l2] [v0] m Q ↔ AW d 255 54 [l0, some (.int x), l2] [.int x, v0] m Q := A_iload_n hB_X12_row dX12_row_53 rfl
theorem dX12_row_54 : decode cX12_row 54 = .ok (.iconst 0, 1) := by decide +kernel
theorem tX12_row_54 {d : Nat} {l0 l1 l2 : Option Value} {v0 v1 : Value} {m : jmM} {Q : Option Value → jmM → Prop} : AW d 255 54 [l0, l1, l2] [v0, v1] m Q ↔ AW d 255 55 [l0, l1, l2] [.int 0, v0, v1] m Q := A_iconst hB_X12_row dX12_row_54 (by decide)
theorem dX12_row_55 : decode cX12_row 55 = .ok (.invokevirtual 297, 3) := by decide +kernel
theorem tX12_row_55 {d : Nat} {l0 l1 l2 : Option Value} {y0 y1 : Value} {a : Nat} {m : jmM} {Q : Option Value → jmM → Prop} : AW d 255 55 [l0, l1, l2] [y0, y1, .ref a] m Q ↔ (mS m a).1 = 12 ∧ CC d 229 [.ref a, y1, y0] m (jK d 255 58 [l0, l1, l2] [] Q) := A_callV hB_X12_row dX12_row_55 hO_X12_row fS_12_297 ⟨Nat.le_of_ble_eq_true rfl, Nat.le_of_ble_eq_true rfl⟩ rfl rfl rfl
theorem dX12_row_58 : decode cX12_row 58 = .ok (.ireturn, 1) := by decide +kernel
theorem tX12_row_58 {d : Nat} {l0 l1 l2 : Option Value} {x : Int32} {m : jmM} {Q : Option Value → jmM → Prop} : AW d 255 58 [l0, l1, l2] [.int x] m Q ↔ Q (some (.int x)) m := A_ireturn hB_X12_row dX12_row_58 hR_X12_row
theorem dX12_row_59 : decode cX12_row 59 = .ok (.aload_n 0, 1) := by decide +kernel
theorem tX12_row_59 {d : Nat} {l1 l2 : Option Value} {x : Nat} {m : jmM} {Q : Option Value → jmM → Prop} : AW d 255 59 [some (.ref x), l1, l2] [] m Q ↔ AW d 255 60 [some (.ref x), l1, l2] [.ref x] m Q := A_aload_n hB_X12_row dX12_row_59 rfl
theorem dX12_row_60 : decode cX12_row 60 = .ok (.iload_n 1, 1) := by decide +kernel
theorem tX12_row_60 {d : Nat} {l0 l2 : Option Value} {v0 : Value} {x : Int32} {m : jmM} {Q : Option Value → jmM → Prop} : AW d 255 60 [l0, some (.int x), l2] [v0] m Q ↔ AW d 255 61 [l0, some (.int x), l2] [.int x, v0] m Q := A_iload_n hB_X12_row dX12_row_60 rfl
theorem dX12_row_61 : decode cX12_row 61 = .ok (.iconst 1, 1) := by decide +kernel
theorem tX12_row_61 {d : Nat} {l0 l1 l2 : Option Value} {v0 v1 : Value} {m : jmM} {Q : Option Value → jmM → Prop} : AW d 255 61 [l0, l1, l2] [v0, v1] m Q ↔ AW d 255 62 [l0, l1, l2] [.int 1, v0, v1] m Q := A_iconst hB_X12_row dX12_row_61 (by decide)
theorem dX12_row_62 : decode cX12_row 62 = .ok (.invokevirtual 297, 3) := by decide +kernel
theorem tX12_row_62 {d : Nat} {l0 l1 l2 : Option Value} {y0 y1 : Value} {a : Nat} {m : jmM} {Q : Option Value → jmM → Prop} : AW d 255 62 [l0, l1, l2] [y0, y1, .ref a] m Q ↔ (mS m a).1 = 12 ∧ CC d 229 [.ref a, y1, y0] m (jK d 255 65 [l0, l1, l2] [] Q) := A_callV hB_X12_row dX12_row_62 hO_X12_row fS_12_297 ⟨Nat.le_of_ble_eq_true rfl, Nat.le_of_ble_eq_true rfl⟩ rfl rfl rfl
theorem dX12_row_65 : decode cX12_row 65 = .ok (.ireturn, 1) := by decide +kernel
theorem tX12_row_65 {d : Nat} {l0 l1 l2 : Option Value} {x : Int32} {m : jmM} {Q : Option Value → jmM → Prop} : AW d 255 65 [l0, l1, l2] [.int x] m Q ↔ Q (some (.int x)) m := A_ireturn hB_X12_row dX12_row_65 hR_X12_row
theorem dX12_row_66 : decode cX12_row 66 = .ok (.aload_n 0, 1) := by decide +kernel
theorem tX12_row_66 {d : Nat} {l1 l2 : Option Value} {x : Nat} {m : jmM} {Q : Option Value → jmM → Prop} : AW d 255 66 [some (.ref x), l1, l2] [] m Q ↔ AW d 255 67 [some (.ref x), l1, l2] [.ref x] m Q := A_aload_n hB_X12_row dX12_row_66 rfl
theorem dX12_row_67 : decode cX12_row 67 = .ok (.iload_n 1, 1) := by decide +kernel
theorem tX12_row_67 {d : Nat} {l0 l2 : Option Value} {v0 : Value} {x : Int32} {m : jmM} {Q : Option Value → jmM → Prop} : AW d 255 67 [l0, some (.int x), l2] [v0] m Q ↔ AW d 255 68 [l0, some (.int x), l2] [.int x, v0] m Q := A_iload_n hB_X12_row dX12_row_67 rfl
theorem dX12_row_68 : decode cX12_row 68 = .ok (.iconst 2, 1) := by decide +kernel
theorem tX12_row_68 {d : Nat} {l0 l1 l2 : Option Value} {v0 v1 : Value} {m : jmM} {Q : Option Value → jmM → Prop} : AW d 255 68 [l0, l1, l2] [v0, v1] m Q ↔ AW d 255 69 [l0, l1, l2] [.int 2, v0, v1] m Q := A_iconst hB_X12_row dX12_row_68 (by decide)
theorem dX12_row_69 : decode cX12_row 69 = .ok (.invokevirtual 297, 3) := by decide +kernel
theorem tX12_row_69 {d : Nat} {l0 l1 l2 : Option Value} {y0 y1 : Value} {a : Nat} {m : jmM} {Q : Option Value → jmM → Prop} : AW d 255 69 [l0, l1, l2] [y0, y1, .ref a] m Q ↔ (mS m a).1 = 12 ∧ CC d 229 [.ref a, y1, y0] m (jK d 255 72 [l0, l1, l2] [] Q) := A_callV hB_X12_row dX12_row_69 hO_X12_row fS_12_297 ⟨Nat.le_of_ble_eq_true rfl, Nat.le_of_ble_eq_true rfl⟩ rfl rfl rfl
theorem dX12_row_72 : decode cX12_row 72 = .ok (.ireturn, 1) := by decide +kernel
theorem tX12_row_72 {d : Nat} {l0 l1 l2 : Option Value} {x : Int32} {m : jmM} {Q : Option Value → jmM → Prop} : AW d 255 72 [l0, l1, l2] [.int x] m Q ↔ Q (some (.int x)) m := A_ireturn hB_X12_row dX12_row_72 hR_X12_row
theorem dX12_row_73 : decode cX12_row 73 = .ok (.aload_n 0, 1) := by decide +kernel
theorem tX12_row_73 {d : Nat} {l1 l2 : Option Value} {x : Nat} {m : jmM} {Q : Option Value → jmM → Prop} : AW d 255 73 [some (.ref x), l1, l2] [] m Q ↔ AW d 255 74 [some (.ref x), l1, l2] [.ref x] m Q := A_aload_n hB_X12_row dX12_row_73 rfl
theorem dX12_row_74 : decode cX12_row 74 = .ok (.iload_n 1, 1) := by decide +kernel
theorem tX12_row_74 {d : Nat} {l0 l2 : Option Value} {v0 : Value} {x : Int32} {m : jmM} {Q : Option Value → jmM → Prop} : AW d 255 74 [l0, some (.int x), l2] [v0] m Q ↔ AW d 255 75 [l0, some (.int x), l2] [.int x, v0] m Q := A_iload_n hB_X12_row dX12_row_74 rfl
theorem dX12_row_75 : decode cX12_row 75 = .ok (.iconst 3, 1) := by decide +kernel
theorem tX12_row_75 {d : Nat} {l0 l1 l2 : Option Value} {v0 v1 : Value} {m : jmM} {Q : Option Value → jmM → Prop} : AW d 255 75 [l0, l1, l2] [v0, v1] m Q ↔ AW d 255 76 [l0, l1, l2] [.int 3, v0, v1] m Q := A_iconst hB_X12_row dX12_row_75 (by decide)
theorem dX12_row_76 : decode cX12_row 76 = .ok (.invokevirtual 297, 3) := by decide +kernel
theorem tX12_row_76 {d : Nat} {l0 l1 l2 : Option Value} {y0 y1 : Value} {a : Nat} {m : jmM} {Q : Option Value → jmM → Prop} : AW d 255 76 [l0, l1, l2] [y0, y1, .ref a] m Q ↔ (mS m a).1 = 12 ∧ CC d 229 [.ref a, y1, y0] m (jK d 255 79 [l0, l1, l2] [] Q) := A_callV hB_X12_row dX12_row_76 hO_X12_row fS_12_297 ⟨Nat.le_of_ble_eq_true rfl, Nat.le_of_ble_eq_true rfl⟩ rfl rfl rfl
theorem dX12_row_79 : decode cX12_row 79 = .ok (.ireturn, 1) := by decide +kernel
theorem tX12_row_79 {d : Nat} {l0 l1 l2 : Option Value} {x : Int32} {m : jmM} {Q : Option Value → jmM → Prop} : AW d 255 79 [l0, l1, l2] [.int x] m Q ↔ Q (some (.int x)) m := A_ireturn hB_X12_row dX12_row_79 hR_X12_row
theorem dX12_row_80 : decode cX12_row 80 = .ok (.aload_n 0, 1) := by decide +kernel
theorem tX12_row_80 {d : Nat} {l1 l2 : Option Value} {x : Nat} {m : jmM} {Q : Option Value → jmM → Prop} : AW d 255 80 [some (.ref x), l1, l2] [] m Q ↔ AW d 255 81 [some (.ref x), l1, l2] [.ref x] m Q := A_aload_n hB_X12_row dX12_row_80 rfl
theorem dX12_row_81 : decode cX12_row 81 = .ok (.iload_n 1, 1) := by decide +kernel
theorem tX12_row_81 {d : Nat} {l0 l2 : Option Value} {v0 : Value} {x : Int32} {m : jmM} {Q : Option Value → jmM → Prop} : AW d 255 81 [l0, some (.int x), l2] [v0] m Q ↔ AW d 255 82 [l0, some (.int x), l2] [.int x, v0] m Q := A_iload_n hB_X12_row dX12_row_81 rfl
theorem dX12_row_82 : decode cX12_row 82 = .ok (.invokevirtual 375, 3) := by decide +kernel
theorem tX12_row_82 {d : Nat} {l0 l1 l2 : Option Value} {y0 : Value} {a : Nat} {m : jmM} {Q : Option Value → jmM → Prop} : AW d 255 82 [l0, l1, l2] [y0, .ref a] m Q ↔ (mS m a).1 = 12 ∧ CC d 254 [.ref a, y0] m (jK d 255 85 [l0, l1, l2] [] Q) := A_callV hB_X12_row dX12_row_82 hO_X12_row fS_12_375 ⟨Nat.le_of_ble_eq_true rfl, Nat.le_of_ble_eq_true rfl⟩ rfl rfl rfl
theorem dX12_row_85 : decode cX12_row 85 = .ok (.ireturn, 1) := by decide +kernel
theorem tX12_row_85 {d : Nat} {l0 l1 l2 : Option Value} {x : Int32} {m : jmM} {Q : Option Value → jmM → Prop} : AW d 255 85 [l0, l1, l2] [.int x] m Q ↔ Q (some (.int x)) m := A_ireturn hB_X12_row dX12_row_85 hR_X12_row
theorem dX12_row_86 : decode cX12_row 86 = .ok (.aload_n 0, 1) := by decide +kernel
theorem tX12_row_86 {d : Nat} {l1 l2 : Option Value} {x : Nat} {m : jmM} {Q : Option Value → jmM → Prop} : AW d 255 86 [some (.ref x), l1, l2] [] m Q ↔ AW d 255 87 [some (.ref x), l1, l2] [.ref x] m Q := A_aload_n hB_X12_row dX12_row_86 rfl
theorem dX12_row_87 : decode cX12_row 87 = .ok (.iload_n 1, 1) := by decide +kernel
theorem tX12_row_87 {d : Nat} {l0 l2 : Option Value} {v0 : Value} {x : Int32} {m : jmM} {Q : Option Value → jmM → Prop} : AW d 255 87 [l0, some (.int x), l2] [v0] m Q ↔ AW d 255 88 [l0, some (.int x), l2] [.int x, v0] m Q := A_iload_n hB_X12_row dX12_row_87 rfl
theorem dX12_row_88 : decode cX12_row 88 = .ok (.invokevirtual 378, 3) := by decide +kernel
theorem tX12_row_88 {d : Nat} {l0 l1 l2 : Option Value} {y0 : Value} {a : Nat} {m : jmM} {Q : Option Value → jmM → Prop} : AW d 255 88 [l0, l1, l2] [y0, .ref a] m Q ↔ (mS m a).1 = 12 ∧ CC d 250 [.ref a, y0] m (jK d 255 91 [l0, l1, l2] [] Q) := A_callV hB_X12_row dX12_row_88 hO_X12_row fS_12_378 ⟨Nat.le_of_ble_eq_true rfl, Nat.le_of_ble_eq_true rfl⟩ rfl rfl rfl
theorem dX12_row_91 : decode cX12_row 91 = .ok (.ifCond .eq 7, 3) := by decide +kernel
theorem tX12_row_91 {d : Nat} {l0 l1 l2 : Option Value} {x : Int32} {m : jmM} {Q : Option Value → jmM → Prop} : AW d 255 91 [l0, l1, l2] [.int x] m Q ↔ if x = 0 then AW d 255 98 [l0, l1, l2] [] m Q else AW d 255 94 [l0, l1, l2] [] m Q := A_if_eq hB_X12_row dX12_row_91 (by decide)
theorem dX12_row_94 : decode cX12_row 94 = .ok (.iconst 1, 1) := by decide +kernel
theorem tX12_row_94 {d : Nat} {l0 l1 l2 : Option Value} {m : jmM} {Q : Option Value → jmM → Prop} : AW d 255 94 [l0, l1, l2] [] m Q ↔ AW d 255 95 [l0, l1, l2] [.int 1] m Q := A_iconst hB_X12_row dX12_row_94 (by decide)
theorem dX12_row_95 : decode cX12_row 95 = .ok (.goto 4, 3) := by decide +kernel
theorem tX12_row_95 {d : Nat} {l0 l1 l2 : Option Value} {v0 : Value} {m : jmM} {Q : Option Value → jmM → Prop} : AW d 255 95 [l0, l1, l2] [v0] m Q ↔ AW d 255 99 [l0, l1, l2] [v0] m Q := A_goto hB_X12_row dX12_row_95 (by decide)
theorem dX12_row_98 : decode cX12_row 98 = .ok (.iconst 0, 1) := by decide +kernel
theorem tX12_row_98 {d : Nat} {l0 l1 l2 : Option Value} {m : jmM} {Q : Option Value → jmM → Prop} : AW d 255 98 [l0, l1, l2] [] m Q ↔ AW d 255 99 [l0, l1, l2] [.int 0] m Q := A_iconst hB_X12_row dX12_row_98 (by decide)
theorem dX12_row_99 : decode cX12_row 99 = .ok (.ireturn, 1) := by decide +kernel
theorem tX12_row_99 {d : Nat} {l0 l1 l2 : Option Value} {x : Int32} {m : jmM} {Q : Option Value → jmM → Prop} : AW d 255 99 [l0, l1, l2] [.int x] m Q ↔ Q (some (.int x)) m := A_ireturn hB_X12_row dX12_row_99 hR_X12_row
theorem dX12_row_100 : decode cX12_row 100 = .ok (.iload_n 1, 1) := by decide +kernel
theorem tX12_row_100 {d : Nat} {l0 l2 : Option Value} {x : Int32} {m : jmM} {Q : Option Value → jmM → Prop} : AW d 255 100 [l0, some (.int x), l2] [] m Q ↔ AW d 255 101 [l0, some (.int x), l2] [.int x] m Q := A_iload_n hB_X12_row dX12_row_100 rfl
theorem dX12_row_101 : decode cX12_row 101 = .ok (.aload_n 0, 1) := by decide +kernel
theorem tX12_row_101 {d : Nat} {l1 l2 : Option Value} {v0 : Value} {x : Nat} {m : jmM} {Q : Option Value → jmM → Prop} : AW d 255 101 [some (.ref x), l1, l2] [v0] m Q ↔ AW d 255 102 [some (.ref x), l1, l2] [.ref x, v0] m Q := A_aload_n hB_X12_row dX12_row_101 rfl
theorem dX12_row_102 : decode cX12_row 102 = .ok (.invokevirtual 381, 3) := by decide +kernel
theorem tX12_row_102 {d : Nat} {l0 l1 l2 : Option Value} {v1 : Value} {a : Nat} {m : jmM} {Q : Option Value → jmM → Prop} : AW d 255 102 [l0, l1, l2] [.ref a, v1] m Q ↔ (mS m a).1 = 12 ∧ CC d 246 [.ref a] m (jK d 255 105 [l0, l1, l2] [v1] Q) := A_callV hB_X12_row dX12_row_102 hO_X12_row fS_12_381 ⟨Nat.le_of_ble_eq_true rfl, Nat.le_of_ble_eq_true rfl⟩ rfl rfl rfl
theorem dX12_row_105 : decode cX12_row 105 = .ok (.if_icmp .lt 7, 3) := by decide +kernel
theorem tX12_row_105 {d : Nat} {l0 l1 l2 : Option Value} {x y : Int32} {m : jmM} {Q : Option Value → jmM → Prop} : AW d 255 105 [l0, l1, l2] [.int y, .int x] m Q ↔ if x < y then AW d 255 112 [l0, l1, l2] [] m Q else AW d 255 108 [l0, l1, l2] [] m Q := A_icmp_lt hB_X12_row dX12_row_105 (by decide)
theorem dX12_row_108 : decode cX12_row 108 = .ok (.iconst 1, 1) := by decide +kernel
theorem tX12_row_108 {d : Nat} {l0 l1 l2 : Option Value} {m : jmM} {Q : Option Value → jmM → Prop} : AW d 255 108 [l0, l1, l2] [] m Q ↔ AW d 255 109 [l0, l1, l2] [.int 1] m Q := A_iconst hB_X12_row dX12_row_108 (by decide)
theorem dX12_row_109 : decode cX12_row 109 = .ok (.goto 4, 3) := by decide +kernel
theorem tX12_row_109 {d : Nat} {l0 l1 l2 : Option Value} {v0 : Value} {m : jmM} {Q : Option Value → jmM → Prop} : AW d 255 109 [l0, l1, l2] [v0] m Q ↔ AW d 255 113 [l0, l1, l2] [v0] m Q := A_goto hB_X12_row dX12_row_109 (by decide)
theorem dX12_row_112 : decode cX12_row 112 = .ok (.iconst 0, 1) := by decide +kernel
theorem tX12_row_112 {d : Nat} {l0 l1 l2 : Option Value} {m : jmM} {Q : Option Value → jmM → Prop} : AW d 255 112 [l0, l1, l2] [] m Q ↔ AW d 255 113 [l0, l1, l2] [.int 0] m Q := A_iconst hB_X12_row dX12_row_112 (by decide)
theorem dX12_row_113 : decode cX12_row 113 = .ok (.ireturn, 1) := by decide +kernel
theorem tX12_row_113 {d : Nat} {l0 l1 l2 : Option Value} {x : Int32} {m : jmM} {Q : Option Value → jmM → Prop} : AW d 255 113 [l0, l1, l2] [.int x] m Q ↔ Q (some (.int x)) m := A_ireturn hB_X12_row dX12_row_113 hR_X12_row
theorem dX12_row_114 : decode cX12_row 114 = .ok (.iconst (-1), 1) := by decide +kernel
theorem tX12_row_114 {d : Nat} {l0 l1 l2 : Option Value} {m : jmM} {Q : Option Value → jmM → Prop} : AW d 255 114 [l0, l1, l2] [] m Q ↔ AW d 255 115 [l0, l1, l2] [.int (-1)] m Q := A_iconst hB_X12_row dX12_row_114 (by decide)
theorem dX12_row_115 : decode cX12_row 115 = .ok (.ireturn, 1) := by decide +kernel
theorem tX12_row_115 {d : Nat} {l0 l1 l2 : Option Value} {x : Int32} {m : jmM} {Q : Option Value → jmM → Prop} : AW d 255 115 [l0, l1, l2] [.int x] m Q ↔ Q (some (.int x)) m := A_ireturn hB_X12_row dX12_row_115 hR_X12_row
theorem hB_X12_much : jB 256 = cX12_much := rfl
theorem hO_X12_much : jO 256 = 12 := rfl
theorem hR_X12_much : jRt 256 = (some .long) := rfl
theorem nX12_much (d : Nat) (x0 : Nat) (x1 : Int32) (x2 : Int32) (m : jmM) (Q : Option Value → jmM → Prop) : CC (d + 1) 256 [.ref x0, .int x1, .int x2] m Q ↔ AW d 256 0 [some (.ref x0), some (.int x1), some (.int x2)] [] m Q := CC_body (Nat.le_of_ble_eq_true rfl)
theorem dX12_much_0 : decode cX12_much 0 = .ok (.iload_n 1, 1) := by decide +kernel
theorem tX12_much_0 {d : Nat} {l0 l2 : Option Value} {x : Int32} {m : jmM} {Q : Option Value → jmM → Prop} : AW d 256 0 [l0, some (.int x), l2] [] m Q ↔ AW d 256 1 [l0, some (.int x), l2] [.int x] m Q := A_iload_n hB_X12_much dX12_much_0 rfl
theorem dX12_much_1 : decode cX12_much 1 = .ok (.i2l, 1) := by decide +kernel
theorem tX12_much_1 {d : Nat} {l0 l1 l2 : Option Value} {x : Int32} {m : jmM} {Q : Option Value → jmM → Prop} : AW d 256 1 [l0, l1, l2] [.int x] m Q ↔ AW d 256 2 [l0, l1, l2] [.long x.toInt64] m Q := A_i2l hB_X12_much dX12_much_1
theorem dX12_much_2 : decode cX12_much 2 = .ok (.lconst 0, 1) := by decide +kernel
theorem tX12_much_2 {d : Nat} {l0 l1 l2 : Option Value} {v0 : Value} {m : jmM} {Q : Option Value → jmM → Prop} : AW d 256 2 [l0, l1, l2] [v0] m Q ↔ AW d 256 3 [l0, l1, l2] [.long 0, v0] m Q := A_lconst hB_X12_much dX12_much_2 (by decide)
theorem dX12_much_3 : decode cX12_much 3 = .ok (.ldc2_w 279, 3) := by decide +kernel
theorem tX12_much_3 {d : Nat} {l0 l1 l2 : Option Value} {v0 v1 : Value} {m : jmM} {Q : Option Value → jmM → Prop} : AW d 256 3 [l0, l1, l2] [v0, v1] m Q ↔ AW d 256 6 [l0, l1, l2] [.long 5, v0, v1] m Q := A_ldc2_w hB_X12_much dX12_much_3 hO_X12_much fL2_12_279
theorem dX12_much_6 : decode cX12_much 6 = .ok (.invokestatic 281, 3) := by decide +kernel
theorem tX12_much_6 {d : Nat} {l0 l1 l2 : Option Value} {y0 y1 y2 : Value} {m : jmM} {Q : Option Value → jmM → Prop} : AW d 256 6 [l0, l1, l2] [y0, y1, y2] m Q ↔ CC d 189 [y2, y1, y0] m (jK d 256 9 [l0, l1, l2] [] Q) := A_callS0 hB_X12_much dX12_much_6 hO_X12_much fS_12_281 ⟨Nat.le_of_ble_eq_true rfl, Nat.le_of_ble_eq_true rfl⟩ rfl rfl
theorem dX12_much_9 : decode cX12_much 9 = .ok (.ifCond .eq 16, 3) := by decide +kernel
theorem tX12_much_9 {d : Nat} {l0 l1 l2 : Option Value} {x : Int32} {m : jmM} {Q : Option Value → jmM → Prop} : AW d 256 9 [l0, l1, l2] [.int x] m Q ↔ if x = 0 then AW d 256 25 [l0, l1, l2] [] m Q else AW d 256 12 [l0, l1, l2] [] m Q := A_if_eq hB_X12_much dX12_much_9 (by decide)
theorem dX12_much_12 : decode cX12_much 12 = .ok (.iload_n 2, 1) := by decide +kernel
theorem tX12_much_12 {d : Nat} {l0 l1 : Option Value} {x : Int32} {m : jmM} {Q : Option Value → jmM → Prop} : AW d 256 12 [l0, l1, some (.int x)] [] m Q ↔ AW d 256 13 [l0, l1, some (.int x)] [.int x] m Q := A_iload_n hB_X12_much dX12_much_12 rfl
theorem dX12_much_13 : decode cX12_much 13 = .ok (.iconst (-1), 1) := by decide +kernel
theorem tX12_much_13 {d : Nat} {l0 l1 l2 : Option Value} {v0 : Value} {m : jmM} {Q : Option Value → jmM → Prop} : AW d 256 13 [l0, l1, l2] [v0] m Q ↔ AW d 256 14 [l0, l1, l2] [.int (-1), v0] m Q := A_iconst hB_X12_much dX12_much_13 (by decide)
theorem dX12_much_14 : decode cX12_much 14 = .ok (.if_icmp .eq 15, 3) := by decide +kernel
theorem tX12_much_14 {d : Nat} {l0 l1 l2 : Option Value} {x y : Int32} {m : jmM} {Q : Option Value → jmM → Prop} : AW d 256 14 [l0, l1, l2] [.int y, .int x] m Q ↔ if x = y then AW d 256 29 [l0, l1, l2] [] m Q else AW d 256 17 [l0, l1, l2] [] m Q := A_icmp_eq hB_X12_much dX12_much_14 (by decide)
theorem dX12_much_17 : decode cX12_much 17 = .ok (.aload_n 0, 1) := by decide +kernel
theorem tX12_much_17 {d : Nat} {l1 l2 : Option Value} {x : Nat} {m : jmM} {Q : Option Value → jmM → Prop} : AW d 256 17 [some (.ref x), l1, l2] [] m Q ↔ AW d 256 18 [some (.ref x), l1, l2] [.ref x] m Q := A_aload_n hB_X12_much dX12_much_17 rfl
theorem dX12_much_18 : decode cX12_much 18 = .ok (.iload_n 2, 1) := by decide +kernel
theorem tX12_much_18 {d : Nat} {l0 l1 : Option Value} {v0 : Value} {x : Int32} {m : jmM} {Q : Option Value → jmM → Prop} : AW d 256 18 [l0, l1, some (.int x)] [v0] m Q ↔ AW d 256 19 [l0, l1, some (.int x)] [.int x, v0] m Q := A_iload_n hB_X12_much dX12_much_18 rfl
theorem dX12_much_19 : decode cX12_much 19 = .ok (.invokevirtual 358, 3) := by decide +kernel
theorem tX12_much_19 {d : Nat} {l0 l1 l2 : Option Value} {y0 : Value} {a : Nat} {m : jmM} {Q : Option Value → jmM → Prop} : AW d 256 19 [l0, l1, l2] [y0, .ref a] m Q ↔ (mS m a).1 = 12 ∧ CC d 230 [.ref a, y0] m (jK d 256 22 [l0, l1, l2] [] Q) := A_callV hB_X12_much dX12_much_19 hO_X12_much fS_12_358 ⟨Nat.le_of_ble_eq_true rfl, Nat.le_of_ble_eq_true rfl⟩ rfl rfl rfl
theorem dX12_much_22 : decode cX12_much 22 = .ok (.ifCond .ne 7, 3) := by decide +kernel
theorem tX12_much_22 {d : Nat} {l0 l1 l2 : Option Value} {x : Int32} {m : jmM} {Q : Option Value → jmM → Prop} : AW d 256 22 [l0, l1, l2] [.int x] m Q ↔ if x = 0 then AW d 256 25 [l0, l1, l2] [] m Q else AW d 256 29 [l0, l1, l2] [] m Q := A_if_ne hB_X12_much dX12_much_22 (by decide)
theorem dX12_much_25 : decode cX12_much 25 = .ok (.ldc2_w 384, 3) := by decide +kernel
theorem tX12_much_25 {d : Nat} {l0 l1 l2 : Option Value} {m : jmM} {Q : Option Value → jmM → Prop} : AW d 256 25 [l0, l1, l2] [] m Q ↔ AW d 256 28 [l0, l1, l2] [.long (-1)] m Q := A_ldc2_w hB_X12_much dX12_much_25 hO_X12_much fL2_12_384
theorem dX12_much_28 : decode cX12_much 28 = .ok (.lreturn, 1) := by decide +kernel
theorem tX12_much_28 {d : Nat} {l0 l1 l2 : Option Value} {x : Int64} {m : jmM} {Q : Option Value → jmM → Prop} : AW d 256 28 [l0, l1, l2] [.long x] m Q ↔ Q (some (.long x)) m := A_lreturn hB_X12_much dX12_much_28 hR_X12_much
theorem dX12_much_29 : decode cX12_much 29 = .ok (.iload_n 2, 1) := by decide +kernel
theorem tX12_much_29 {d : Nat} {l0 l1 : Option Value} {x : Int32} {m : jmM} {Q : Option Value → jmM → Prop} : AW d 256 29 [l0, l1, some (.int x)] [] m Q ↔ AW d 256 30 [l0, l1, some (.int x)] [.int x] m Q := A_iload_n hB_X12_much dX12_much_29 rfl
theorem dX12_much_30 : decode cX12_much 30 = .ok (.iconst (-1), 1) := by decide +kernel
theorem tX12_much_30 {d : Nat} {l0 l1 l2 : Option Value} {v0 : Value} {m : jmM} {Q : Option Value → jmM → Prop} : AW d 256 30 [l0, l1, l2] [v0] m Q ↔ AW d 256 31 [l0, l1, l2] [.int (-1), v0] m Q := A_iconst hB_X12_much dX12_much_30 (by decide)
theorem dX12_much_31 : decode cX12_much 31 = .ok (.if_icmp .eq 17, 3) := by decide +kernel
theorem tX12_much_31 {d : Nat} {l0 l1 l2 : Option Value} {x y : Int32} {m : jmM} {Q : Option Value → jmM → Prop} : AW d 256 31 [l0, l1, l2] [.int y, .int x] m Q ↔ if x = y then AW d 256 48 [l0, l1, l2] [] m Q else AW d 256 34 [l0, l1, l2] [] m Q := A_icmp_eq hB_X12_much dX12_much_31 (by decide)
theorem dX12_much_34 : decode cX12_much 34 = .ok (.aload_n 0, 1) := by decide +kernel
theorem tX12_much_34 {d : Nat} {l1 l2 : Option Value} {x : Nat} {m : jmM} {Q : Option Value → jmM → Prop} : AW d 256 34 [some (.ref x), l1, l2] [] m Q ↔ AW d 256 35 [some (.ref x), l1, l2] [.ref x] m Q := A_aload_n hB_X12_much dX12_much_34 rfl
theorem dX12_much_35 : decode cX12_much 35 = .ok (.getfield 66, 3) := by decide +kernel
theorem tX12_much_35 {d : Nat} {l0 l1 l2 : Option Value} {a : Nat} {m : jmM} {Q : Option Value → jmM → Prop} : AW d 256 35 [l0, l1, l2] [.ref a] m Q ↔ (mS m a).1 = 12 ∧ AW d 256 38 [l0, l1, l2] [va_rf (mR m a 30)] m Q := A_getfield (f := fun m a => va_rf (mR m a 30)) hB_X12_much dX12_much_35 hO_X12_much fF_12_66 rfl
theorem dX12_much_38 : decode cX12_much 38 = .ok (.bipush 6, 2) := by decide +kernel
theorem tX12_much_38 {d : Nat} {l0 l1 l2 : Option Value} {v0 : Value} {m : jmM} {Q : Option Value → jmM → Prop} : AW d 256 38 [l0, l1, l2] [v0] m Q ↔ AW d 256 40 [l0, l1, l2] [.int 6, v0] m Q := A_bipush hB_X12_much dX12_much_38 rfl
theorem dX12_much_40 : decode cX12_much 40 = .ok (.iload_n 2, 1) := by decide +kernel
theorem tX12_much_40 {d : Nat} {l0 l1 : Option Value} {v0 v1 : Value} {x : Int32} {m : jmM} {Q : Option Value → jmM → Prop} : AW d 256 40 [l0, l1, some (.int x)] [v0, v1] m Q ↔ AW d 256 41 [l0, l1, some (.int x)] [.int x, v0, v1] m Q := A_iload_n hB_X12_much dX12_much_40 rfl
theorem dX12_much_41 : decode cX12_much 41 = .ok (.imul, 1) := by decide +kernel
theorem tX12_much_41 {d : Nat} {l0 l1 l2 : Option Value} {v2 : Value} {x y : Int32} {m : jmM} {Q : Option Value → jmM → Prop} : AW d 256 41 [l0, l1, l2] [.int y, .int x, v2] m Q ↔ AW d 256 42 [l0, l1, l2] [.int (x * y), v2] m Q := A_imul hB_X12_much dX12_much_41
theorem dX12_much_42 : decode cX12_much 42 = .ok (.iload_n 1, 1) := by decide +kernel
theorem tX12_much_42 {d : Nat} {l0 l2 : Option Value} {v0 v1 : Value} {x : Int32} {m : jmM} {Q : Option Value → jmM → Prop} : AW d 256 42 [l0, some (.int x), l2] [v0, v1] m Q ↔ AW d 256 43 [l0, some (.int x), l2] [.int x, v0, v1] m Q := A_iload_n hB_X12_much dX12_much_42 rfl
theorem dX12_much_43 : decode cX12_much 43 = .ok (.iadd, 1) := by decide +kernel
theorem tX12_much_43 {d : Nat} {l0 l1 l2 : Option Value} {v2 : Value} {x y : Int32} {m : jmM} {Q : Option Value → jmM → Prop} : AW d 256 43 [l0, l1, l2] [.int y, .int x, v2] m Q ↔ AW d 256 44 [l0, l1, l2] [.int (x + y), v2] m Q := A_iadd hB_X12_much dX12_much_43
theorem dX12_much_44 : decode cX12_much 44 = .ok (.laload, 1) := by decide +kernel
theorem tX12_much_44 {d : Nat} {l0 l1 l2 : Option Value} {i : Int32} {a : Nat} {m : jmM} {Q : Option Value → jmM → Prop} : AW d 256 44 [l0, l1, l2] [.int i, .ref a] m Q ↔ ((mS m a).1 = 21 ∧ jIx i (mS m a).2) ∧ AW d 256 45 [l0, l1, l2] [.long (mL m a (jx i))] m Q := A_laload hB_X12_much dX12_much_44
theorem dX12_much_45 : decode cX12_much 45 = .ok (.goto 22, 3) := by decide +kernel
theorem tX12_much_45 {d : Nat} {l0 l1 l2 : Option Value} {v0 : Value} {m : jmM} {Q : Option Value → jmM → Prop} : AW d 256 45 [l0, l1, l2] [v0] m Q ↔ AW d 256 67 [l0, l1, l2] [v0] m Q := A_goto hB_X12_much dX12_much_45 (by decide)
theorem dX12_much_48 : decode cX12_much 48 = .ok (.aload_n 0, 1) := by decide +kernel
theorem tX12_much_48 {d : Nat} {l1 l2 : Option Value} {x : Nat} {m : jmM} {Q : Option Value → jmM → Prop} : AW d 256 48 [some (.ref x), l1, l2] [] m Q ↔ AW d 256 49 [some (.ref x), l1, l2] [.ref x] m Q := A_aload_n hB_X12_much dX12_much_48 rfl
theorem dX12_much_49 : decode cX12_much 49 = .ok (.getfield 51, 3) := by decide +kernel
theorem tX12_much_49 {d : Nat} {l0 l1 l2 : Option Value} {a : Nat} {m : jmM} {Q : Option Value → jmM → Prop} : AW d 256 49 [l0, l1, l2] [.ref a] m Q ↔ (mS m a).1 = 12 ∧ AW d 256 52 [l0, l1, l2] [va_rf (mR m a 25)] m Q := A_getfield (f := fun m a => va_rf (mR m a 25)) hB_X12_much dX12_much_49 hO_X12_much fF_12_51 rfl
theorem dX12_much_52 : decode cX12_much 52 = .ok (.iconst 0, 1) := by decide +kernel
theorem tX12_much_52 {d : Nat} {l0 l1 l2 : Option Value} {v0 : Value} {m : jmM} {Q : Option Value → jmM → Prop} : AW d 256 52 [l0, l1, l2] [v0] m Q ↔ AW d 256 53 [l0, l1, l2] [.int 0, v0] m Q := A_iconst hB_X12_much dX12_much_52 (by decide)
theorem dX12_much_53 : decode cX12_much 53 = .ok (.iaload, 1) := by decide +kernel
theorem tX12_much_53 {d : Nat} {l0 l1 l2 : Option Value} {i : Int32} {a : Nat} {m : jmM} {Q : Option Value → jmM → Prop} : AW d 256 53 [l0, l1, l2] [.int i, .ref a] m Q ↔ (((mS m a).1 = 20 ∨ a = jScr) ∧ jIx i (mS m a).2) ∧ AW d 256 54 [l0, l1, l2] [.int (mI m a (jx i))] m Q := A_iaload hB_X12_much dX12_much_53
theorem dX12_much_54 : decode cX12_much 54 = .ok (.ifCond .ne 7, 3) := by decide +kernel
theorem tX12_much_54 {d : Nat} {l0 l1 l2 : Option Value} {x : Int32} {m : jmM} {Q : Option Value → jmM → Prop} : AW d 256 54 [l0, l1, l2] [.int x] m Q ↔ if x = 0 then AW d 256 57 [l0, l1, l2] [] m Q else AW d 256 61 [l0, l1, l2] [] m Q := A_if_ne hB_X12_much dX12_much_54 (by decide)
theorem dX12_much_57 : decode cX12_much 57 = .ok (.lconst 0, 1) := by decide +kernel
theorem tX12_much_57 {d : Nat} {l0 l1 l2 : Option Value} {m : jmM} {Q : Option Value → jmM → Prop} : AW d 256 57 [l0, l1, l2] [] m Q ↔ AW d 256 58 [l0, l1, l2] [.long 0] m Q := A_lconst hB_X12_much dX12_much_57 (by decide)
theorem dX12_much_58 : decode cX12_much 58 = .ok (.goto 9, 3) := by decide +kernel
theorem tX12_much_58 {d : Nat} {l0 l1 l2 : Option Value} {v0 : Value} {m : jmM} {Q : Option Value → jmM → Prop} : AW d 256 58 [l0, l1, l2] [v0] m Q ↔ AW d 256 67 [l0, l1, l2] [v0] m Q := A_goto hB_X12_much dX12_much_58 (by decide)
theorem dX12_much_61 : decode cX12_much 61 = .ok (.aload_n 0, 1) := by decide +kernel
theorem tX12_much_61 {d : Nat} {l1 l2 : Option Value} {x : Nat} {m : jmM} {Q : Option Value → jmM → Prop} : AW d 256 61 [some (.ref x), l1, l2] [] m Q ↔ AW d 256 62 [some (.ref x), l1, l2] [.ref x] m Q := A_aload_n hB_X12_much dX12_much_61 rfl
theorem dX12_much_62 : decode cX12_much 62 = .ok (.getfield 54, 3) := by decide +kernel
theorem tX12_much_62 {d : Nat} {l0 l1 l2 : Option Value} {a : Nat} {m : jmM} {Q : Option Value → jmM → Prop} : AW d 256 62 [l0, l1, l2] [.ref a] m Q ↔ (mS m a).1 = 12 ∧ AW d 256 65 [l0, l1, l2] [va_rf (mR m a 26)] m Q := A_getfield (f := fun m a => va_rf (mR m a 26)) hB_X12_much dX12_much_62 hO_X12_much fF_12_54 rfl
theorem dX12_much_65 : decode cX12_much 65 = .ok (.iload_n 1, 1) := by decide +kernel
theorem tX12_much_65 {d : Nat} {l0 l2 : Option Value} {v0 : Value} {x : Int32} {m : jmM} {Q : Option Value → jmM → Prop} : AW d 256 65 [l0, some (.int x), l2] [v0] m Q ↔ AW d 256 66 [l0, some (.int x), l2] [.int x, v0] m Q := A_iload_n hB_X12_much dX12_much_65 rfl
theorem dX12_much_66 : decode cX12_much 66 = .ok (.laload, 1) := by decide +kernel
theorem tX12_much_66 {d : Nat} {l0 l1 l2 : Option Value} {i : Int32} {a : Nat} {m : jmM} {Q : Option Value → jmM → Prop} : AW d 256 66 [l0, l1, l2] [.int i, .ref a] m Q ↔ ((mS m a).1 = 21 ∧ jIx i (mS m a).2) ∧ AW d 256 67 [l0, l1, l2] [.long (mL m a (jx i))] m Q := A_laload hB_X12_much dX12_much_66
theorem dX12_much_67 : decode cX12_much 67 = .ok (.lreturn, 1) := by decide +kernel
theorem tX12_much_67 {d : Nat} {l0 l1 l2 : Option Value} {x : Int64} {m : jmM} {Q : Option Value → jmM → Prop} : AW d 256 67 [l0, l1, l2] [.long x] m Q ↔ Q (some (.long x)) m := A_lreturn hB_X12_much dX12_much_67 hR_X12_much
theorem hB_X12_partsOf : jB 257 = cX12_partsOf := rfl
theorem hO_X12_partsOf : jO 257 = 12 := rfl
theorem hR_X12_partsOf : jRt 257 = (some .long) := rfl
theorem nX12_partsOf (d : Nat) (x0 : Nat) (x1 : Int64) (x2 : Int32) (m : jmM) (Q : Option Value → jmM → Prop) : CC (d + 1) 257 [.ref x0, .long x1, .int x2] m Q ↔ AW d 257 0 [some (.ref x0), some (.long x1), none, some (.int x2)] [] m Q := CC_body (Nat.le_of_ble_eq_true rfl)
theorem dX12_partsOf_0 : decode cX12_partsOf 0 = .ok (.aload_n 0, 1) := by decide +kernel
theorem tX12_partsOf_0 {d : Nat} {l1 l2 l3 : Option Value} {x : Nat} {m : jmM} {Q : Option Value → jmM → Prop} : AW d 257 0 [some (.ref x), l1, l2, l3] [] m Q ↔ AW d 257 1 [some (.ref x), l1, l2, l3] [.ref x] m Q := A_aload_n hB_X12_partsOf dX12_partsOf_0 rfl
theorem dX12_partsOf_1 : decode cX12_partsOf 1 = .ok (.iload_n 3, 1) := by decide +kernel
theorem tX12_partsOf_1 {d : Nat} {l0 l1 l2 : Option Value} {v0 : Value} {x : Int32} {m : jmM} {Q : Option Value → jmM → Prop} : AW d 257 1 [l0, l1, l2, some (.int x)] [v0] m Q ↔ AW d 257 2 [l0, l1, l2, some (.int x)] [.int x, v0] m Q := A_iload_n hB_X12_partsOf dX12_partsOf_1 rfl
theorem dX12_partsOf_2 : decode cX12_partsOf 2 = .ok (.iconst 3, 1) := by decide +kernel
theorem tX12_partsOf_2 {d : Nat} {l0 l1 l2 l3 : Option Value} {v0 v1 : Value} {m : jmM} {Q : Option Value → jmM → Prop} : AW d 257 2 [l0, l1, l2, l3] [v0, v1] m Q ↔ AW d 257 3 [l0, l1, l2, l3] [.int 3, v0, v1] m Q := A_iconst hB_X12_partsOf dX12_partsOf_2 (by decide)
theorem dX12_partsOf_3 : decode cX12_partsOf 3 = .ok (.invokevirtual 297, 3) := by decide +kernel
theorem tX12_partsOf_3 {d : Nat} {l0 l1 l2 l3 : Option Value} {y0 y1 : Value} {a : Nat} {m : jmM} {Q : Option Value → jmM → Prop} : AW d 257 3 [l0, l1, l2, l3] [y0, y1, .ref a] m Q ↔ (mS m a).1 = 12 ∧ CC d 229 [.ref a, y1, y0] m (jK d 257 6 [l0, l1, l2, l3] [] Q) := A_callV hB_X12_partsOf dX12_partsOf_3 hO_X12_partsOf fS_12_297 ⟨Nat.le_of_ble_eq_true rfl, Nat.le_of_ble_eq_true rfl⟩ rfl rfl rfl
theorem dX12_partsOf_6 : decode cX12_partsOf 6 = .ok (.ifCond .ne 7, 3) := by decide +kernel
theorem tX12_partsOf_6 {d : Nat} {l0 l1 l2 l3 : Option Value} {x : Int32} {m : jmM} {Q : Option Value → jmM → Prop} : AW d 257 6 [l0, l1, l2, l3] [.int x] m Q ↔ if x = 0 then AW d 257 9 [l0, l1, l2, l3] [] m Q else AW d 257 13 [l0, l1, l2, l3] [] m Q := A_if_ne hB_X12_partsOf dX12_partsOf_6 (by decide)
theorem dX12_partsOf_9 : decode cX12_partsOf 9 = .ok (.lconst 0, 1) := by decide +kernel
theorem tX12_partsOf_9 {d : Nat} {l0 l1 l2 l3 : Option Value} {m : jmM} {Q : Option Value → jmM → Prop} : AW d 257 9 [l0, l1, l2, l3] [] m Q ↔ AW d 257 10 [l0, l1, l2, l3] [.long 0] m Q := A_lconst hB_X12_partsOf dX12_partsOf_9 (by decide)
theorem dX12_partsOf_10 : decode cX12_partsOf 10 = .ok (.goto 16, 3) := by decide +kernel
theorem tX12_partsOf_10 {d : Nat} {l0 l1 l2 l3 : Option Value} {v0 : Value} {m : jmM} {Q : Option Value → jmM → Prop} : AW d 257 10 [l0, l1, l2, l3] [v0] m Q ↔ AW d 257 26 [l0, l1, l2, l3] [v0] m Q := A_goto hB_X12_partsOf dX12_partsOf_10 (by decide)
theorem dX12_partsOf_13 : decode cX12_partsOf 13 = .ok (.ldc2_w 386, 3) := by decide +kernel
theorem tX12_partsOf_13 {d : Nat} {l0 l1 l2 l3 : Option Value} {m : jmM} {Q : Option Value → jmM → Prop} : AW d 257 13 [l0, l1, l2, l3] [] m Q ↔ AW d 257 16 [l0, l1, l2, l3] [.long 1000000] m Q := A_ldc2_w hB_X12_partsOf dX12_partsOf_13 hO_X12_partsOf fL2_12_386
theorem dX12_partsOf_16 : decode cX12_partsOf 16 = .ok (.lload_n 1, 1) := by decide +kernel
theorem tX12_partsOf_16 {d : Nat} {l0 l2 l3 : Option Value} {v0 : Value} {x : Int64} {m : jmM} {Q : Option Value → jmM → Prop} : AW d 257 16 [l0, some (.long x), l2, l3] [v0] m Q ↔ AW d 257 17 [l0, some (.long x), l2, l3] [.long x, v0] m Q := A_lload_n hB_X12_partsOf dX12_partsOf_16 rfl
theorem dX12_partsOf_17 : decode cX12_partsOf 17 = .ok (.lmul, 1) := by decide +kernel
theorem tX12_partsOf_17 {d : Nat} {l0 l1 l2 l3 : Option Value} {x y : Int64} {m : jmM} {Q : Option Value → jmM → Prop} : AW d 257 17 [l0, l1, l2, l3] [.long y, .long x] m Q ↔ AW d 257 18 [l0, l1, l2, l3] [.long (x * y)] m Q := A_lmul hB_X12_partsOf dX12_partsOf_17
theorem dX12_partsOf_18 : decode cX12_partsOf 18 = .ok (.aload_n 0, 1) := by decide +kernel
theorem tX12_partsOf_18 {d : Nat} {l1 l2 l3 : Option Value} {v0 : Value} {x : Nat} {m : jmM} {Q : Option Value → jmM → Prop} : AW d 257 18 [some (.ref x), l1, l2, l3] [v0] m Q ↔ AW d 257 19 [some (.ref x), l1, l2, l3] [.ref x, v0] m Q := A_aload_n hB_X12_partsOf dX12_partsOf_18 rfl
theorem dX12_partsOf_19 : decode cX12_partsOf 19 = .ok (.iload_n 3, 1) := by decide +kernel
theorem tX12_partsOf_19 {d : Nat} {l0 l1 l2 : Option Value} {v0 v1 : Value} {x : Int32} {m : jmM} {Q : Option Value → jmM → Prop} : AW d 257 19 [l0, l1, l2, some (.int x)] [v0, v1] m Q ↔ AW d 257 20 [l0, l1, l2, some (.int x)] [.int x, v0, v1] m Q := A_iload_n hB_X12_partsOf dX12_partsOf_19 rfl
theorem dX12_partsOf_20 : decode cX12_partsOf 20 = .ok (.iconst 3, 1) := by decide +kernel
theorem tX12_partsOf_20 {d : Nat} {l0 l1 l2 l3 : Option Value} {v0 v1 v2 : Value} {m : jmM} {Q : Option Value → jmM → Prop} : AW d 257 20 [l0, l1, l2, l3] [v0, v1, v2] m Q ↔ AW d 257 21 [l0, l1, l2, l3] [.int 3, v0, v1, v2] m Q := A_iconst hB_X12_partsOf dX12_partsOf_20 (by decide)
theorem dX12_partsOf_21 : decode cX12_partsOf 21 = .ok (.invokevirtual 297, 3) := by decide +kernel
theorem tX12_partsOf_21 {d : Nat} {l0 l1 l2 l3 : Option Value} {v3 : Value} {y0 y1 : Value} {a : Nat} {m : jmM} {Q : Option Value → jmM → Prop} : AW d 257 21 [l0, l1, l2, l3] [y0, y1, .ref a, v3] m Q ↔ (mS m a).1 = 12 ∧ CC d 229 [.ref a, y1, y0] m (jK d 257 24 [l0, l1, l2, l3] [v3] Q) := A_callV hB_X12_partsOf dX12_partsOf_21 hO_X12_partsOf fS_12_297 ⟨Nat.le_of_ble_eq_true rfl, Nat.le_of_ble_eq_true rfl⟩ rfl rfl rfl
theorem dX12_partsOf_24 : decode cX12_partsOf 24 = .ok (.i2l, 1) := by decide +kernel
theorem tX12_partsOf_24 {d : Nat} {l0 l1 l2 l3 : Option Value} {v1 : Value} {x : Int32} {m : jmM} {Q : Option Value → jmM → Prop} : AW d 257 24 [l0, l1, l2, l3] [.int x, v1] m Q ↔ AW d 257 25 [l0, l1, l2, l3] [.long x.toInt64, v1] m Q := A_i2l hB_X12_partsOf dX12_partsOf_24
theorem dX12_partsOf_25 : decode cX12_partsOf 25 = .ok (.ldiv, 1) := by decide +kernel
theorem tX12_partsOf_25 {d : Nat} {l0 l1 l2 l3 : Option Value} {x y : Int64} {m : jmM} {Q : Option Value → jmM → Prop} : AW d 257 25 [l0, l1, l2, l3] [.long y, .long x] m Q ↔ ¬ y = 0 ∧ AW d 257 26 [l0, l1, l2, l3] [.long (x / y)] m Q := A_ldiv hB_X12_partsOf dX12_partsOf_25
theorem dX12_partsOf_26 : decode cX12_partsOf 26 = .ok (.lreturn, 1) := by decide +kernel
theorem tX12_partsOf_26 {d : Nat} {l0 l1 l2 l3 : Option Value} {x : Int64} {m : jmM} {Q : Option Value → jmM → Prop} : AW d 257 26 [l0, l1, l2, l3] [.long x] m Q ↔ Q (some (.long x)) m := A_lreturn hB_X12_partsOf dX12_partsOf_26 hR_X12_partsOf
theorem hB_X12_parts : jB 258 = cX12_parts := rfl
theorem hO_X12_parts : jO 258 = 12 := rfl
theorem hR_X12_parts : jRt 258 = (some .long) := rfl
theorem nX12_parts (d : Nat) (x0 : Nat) (x1 : Int32) (x2 : Int32) (m : jmM) (Q : Option Value → jmM → Prop) : CC (d + 1) 258 [.ref x0, .int x1, .int x2] m Q ↔ AW d 258 0 [some (.ref x0), some (.int x1), some (.int x2)] [] m Q := CC_body (Nat.le_of_ble_eq_true rfl)
theorem dX12_parts_0 : decode cX12_parts 0 = .ok (.iload_n 1, 1) := by decide +kernel
theorem tX12_parts_0 {d : Nat} {l0 l2 : Option Value} {x : Int32} {m : jmM} {Q : Option Value → jmM → Prop} : AW d 258 0 [l0, some (.int x), l2] [] m Q ↔ AW d 258 1 [l0, some (.int x), l2] [.int x] m Q := A_iload_n hB_X12_parts dX12_parts_0 rfl
theorem dX12_parts_1 : decode cX12_parts 1 = .ok (.i2l, 1) := by decide +kernel
theorem tX12_parts_1 {d : Nat} {l0 l1 l2 : Option Value} {x : Int32} {m : jmM} {Q : Option Value → jmM → Prop} : AW d 258 1 [l0, l1, l2] [.int x] m Q ↔ AW d 258 2 [l0, l1, l2] [.long x.toInt64] m Q := A_i2l hB_X12_parts dX12_parts_1
theorem dX12_parts_2 : decode cX12_parts 2 = .ok (.lconst 0, 1) := by decide +kernel
theorem tX12_parts_2 {d : Nat} {l0 l1 l2 : Option Value} {v0 : Value} {m : jmM} {Q : Option Value → jmM → Prop} : AW d 258 2 [l0, l1, l2] [v0] m Q ↔ AW d 258 3 [l0, l1, l2] [.long 0, v0] m Q := A_lconst hB_X12_parts dX12_parts_2 (by decide)
theorem dX12_parts_3 : decode cX12_parts 3 = .ok (.ldc2_w 279, 3) := by decide +kernel
theorem tX12_parts_3 {d : Nat} {l0 l1 l2 : Option Value} {v0 v1 : Value} {m : jmM} {Q : Option Value → jmM → Prop} : AW d 258 3 [l0, l1, l2] [v0, v1] m Q ↔ AW d 258 6 [l0, l1, l2] [.long 5, v0, v1] m Q := A_ldc2_w hB_X12_parts dX12_parts_3 hO_X12_parts fL2_12_279
theorem dX12_parts_6 : decode cX12_parts 6 = .ok (.invokestatic 281, 3) := by decide +kernel
theorem tX12_parts_6 {d : Nat} {l0 l1 l2 : Option Value} {y0 y1 y2 : Value} {m : jmM} {Q : Option Value → jmM → Prop} : AW d 258 6 [l0, l1, l2] [y0, y1, y2] m Q ↔ CC d 189 [y2, y1, y0] m (jK d 258 9 [l0, l1, l2] [] Q) := A_callS0 hB_X12_parts dX12_parts_6 hO_X12_parts fS_12_281 ⟨Nat.le_of_ble_eq_true rfl, Nat.le_of_ble_eq_true rfl⟩ rfl rfl
theorem dX12_parts_9 : decode cX12_parts 9 = .ok (.ifCond .eq 30, 3) := by decide +kernel
theorem tX12_parts_9 {d : Nat} {l0 l1 l2 : Option Value} {x : Int32} {m : jmM} {Q : Option Value → jmM → Prop} : AW d 258 9 [l0, l1, l2] [.int x] m Q ↔ if x = 0 then AW d 258 39 [l0, l1, l2] [] m Q else AW d 258 12 [l0, l1, l2] [] m Q := A_if_eq hB_X12_parts dX12_parts_9 (by decide)
theorem dX12_parts_12 : decode cX12_parts 12 = .ok (.aload_n 0, 1) := by decide +kernel
theorem tX12_parts_12 {d : Nat} {l1 l2 : Option Value} {x : Nat} {m : jmM} {Q : Option Value → jmM → Prop} : AW d 258 12 [some (.ref x), l1, l2] [] m Q ↔ AW d 258 13 [some (.ref x), l1, l2] [.ref x] m Q := A_aload_n hB_X12_parts dX12_parts_12 rfl
theorem dX12_parts_13 : decode cX12_parts 13 = .ok (.iload_n 2, 1) := by decide +kernel
theorem tX12_parts_13 {d : Nat} {l0 l1 : Option Value} {v0 : Value} {x : Int32} {m : jmM} {Q : Option Value → jmM → Prop} : AW d 258 13 [l0, l1, some (.int x)] [v0] m Q ↔ AW d 258 14 [l0, l1, some (.int x)] [.int x, v0] m Q := A_iload_n hB_X12_parts dX12_parts_13 rfl
theorem dX12_parts_14 : decode cX12_parts 14 = .ok (.invokevirtual 358, 3) := by decide +kernel
theorem tX12_parts_14 {d : Nat} {l0 l1 l2 : Option Value} {y0 : Value} {a : Nat} {m : jmM} {Q : Option Value → jmM → Prop} : AW d 258 14 [l0, l1, l2] [y0, .ref a] m Q ↔ (mS m a).1 = 12 ∧ CC d 230 [.ref a, y0] m (jK d 258 17 [l0, l1, l2] [] Q) := A_callV hB_X12_parts dX12_parts_14 hO_X12_parts fS_12_358 ⟨Nat.le_of_ble_eq_true rfl, Nat.le_of_ble_eq_true rfl⟩ rfl rfl rfl
theorem dX12_parts_17 : decode cX12_parts 17 = .ok (.ifCond .eq 22, 3) := by decide +kernel
theorem tX12_parts_17 {d : Nat} {l0 l1 l2 : Option Value} {x : Int32} {m : jmM} {Q : Option Value → jmM → Prop} : AW d 258 17 [l0, l1, l2] [.int x] m Q ↔ if x = 0 then AW d 258 39 [l0, l1, l2] [] m Q else AW d 258 20 [l0, l1, l2] [] m Q := A_if_eq hB_X12_parts dX12_parts_17 (by decide)
theorem dX12_parts_20 : decode cX12_parts 20 = .ok (.aload_n 0, 1) := by decide +kernel
theorem tX12_parts_20 {d : Nat} {l1 l2 : Option Value} {x : Nat} {m : jmM} {Q : Option Value → jmM → Prop} : AW d 258 20 [some (.ref x), l1, l2] [] m Q ↔ AW d 258 21 [some (.ref x), l1, l2] [.ref x] m Q := A_aload_n hB_X12_parts dX12_parts_20 rfl
theorem dX12_parts_21 : decode cX12_parts 21 = .ok (.aload_n 0, 1) := by decide +kernel
theorem tX12_parts_21 {d : Nat} {l1 l2 : Option Value} {v0 : Value} {x : Nat} {m : jmM} {Q : Option Value → jmM → Prop} : AW d 258 21 [some (.ref x), l1, l2] [v0] m Q ↔ AW d 258 22 [some (.ref x), l1, l2] [.ref x, v0] m Q := A_aload_n hB_X12_parts dX12_parts_21 rfl
theorem dX12_parts_22 : decode cX12_parts 22 = .ok (.getfield 66, 3) := by decide +kernel
theorem tX12_parts_22 {d : Nat} {l0 l1 l2 : Option Value} {v1 : Value} {a : Nat} {m : jmM} {Q : Option Value → jmM → Prop} : AW d 258 22 [l0, l1, l2] [.ref a, v1] m Q ↔ (mS m a).1 = 12 ∧ AW d 258 25 [l0, l1, l2] [va_rf (mR m a 30), v1] m Q := A_getfield (f := fun m a => va_rf (mR m a 30)) hB_X12_parts dX12_parts_22 hO_X12_parts fF_12_66 rfl
theorem dX12_parts_25 : decode cX12_parts 25 = .ok (.bipush 6, 2) := by decide +kernel
theorem tX12_parts_25 {d : Nat} {l0 l1 l2 : Option Value} {v0 v1 : Value} {m : jmM} {Q : Option Value → jmM → Prop} : AW d 258 25 [l0, l1, l2] [v0, v1] m Q ↔ AW d 258 27 [l0, l1, l2] [.int 6, v0, v1] m Q := A_bipush hB_X12_parts dX12_parts_25 rfl
theorem dX12_parts_27 : decode cX12_parts 27 = .ok (.iload_n 2, 1) := by decide +kernel
theorem tX12_parts_27 {d : Nat} {l0 l1 : Option Value} {v0 v1 v2 : Value} {x : Int32} {m : jmM} {Q : Option Value → jmM → Prop} : AW d 258 27 [l0, l1, some (.int x)] [v0, v1, v2] m Q ↔ AW d 258 28 [l0, l1, some (.int x)] [.int x, v0, v1, v2] m Q := A_iload_n hB_X12_parts dX12_parts_27 rfl
theorem dX12_parts_28 : decode cX12_parts 28 = .ok (.imul, 1) := by decide +kernel
theorem tX12_parts_28 {d : Nat} {l0 l1 l2 : Option Value} {v2 v3 : Value} {x y : Int32} {m : jmM} {Q : Option Value → jmM → Prop} : AW d 258 28 [l0, l1, l2] [.int y, .int x, v2, v3] m Q ↔ AW d 258 29 [l0, l1, l2] [.int (x * y), v2, v3] m Q := A_imul hB_X12_parts dX12_parts_28
theorem dX12_parts_29 : decode cX12_parts 29 = .ok (.iload_n 1, 1) := by decide +kernel
theorem tX12_parts_29 {d : Nat} {l0 l2 : Option Value} {v0 v1 v2 : Value} {x : Int32} {m : jmM} {Q : Option Value → jmM → Prop} : AW d 258 29 [l0, some (.int x), l2] [v0, v1, v2] m Q ↔ AW d 258 30 [l0, some (.int x), l2] [.int x, v0, v1, v2] m Q := A_iload_n hB_X12_parts dX12_parts_29 rfl
theorem dX12_parts_30 : decode cX12_parts 30 = .ok (.iadd, 1) := by decide +kernel
theorem tX12_parts_30 {d : Nat} {l0 l1 l2 : Option Value} {v2 v3 : Value} {x y : Int32} {m : jmM} {Q : Option Value → jmM → Prop} : AW d 258 30 [l0, l1, l2] [.int y, .int x, v2, v3] m Q ↔ AW d 258 31 [l0, l1, l2] [.int (x + y), v2, v3] m Q := A_iadd hB_X12_parts dX12_parts_30
theorem dX12_parts_31 : decode cX12_parts 31 = .ok (.laload, 1) := by decide +kernel
theorem tX12_parts_31 {d : Nat} {l0 l1 l2 : Option Value} {v2 : Value} {i : Int32} {a : Nat} {m : jmM} {Q : Option Value → jmM → Prop} : AW d 258 31 [l0, l1, l2] [.int i, .ref a, v2] m Q ↔ ((mS m a).1 = 21 ∧ jIx i (mS m a).2) ∧ AW d 258 32 [l0, l1, l2] [.long (mL m a (jx i)), v2] m Q := A_laload hB_X12_parts dX12_parts_31
theorem dX12_parts_32 : decode cX12_parts 32 = .ok (.iload_n 2, 1) := by decide +kernel
theorem tX12_parts_32 {d : Nat} {l0 l1 : Option Value} {v0 v1 : Value} {x : Int32} {m : jmM} {Q : Option Value → jmM → Prop} : AW d 258 32 [l0, l1, some (.int x)] [v0, v1] m Q ↔ AW d 258 33 [l0, l1, some (.int x)] [.int x, v0, v1] m Q := A_iload_n hB_X12_parts dX12_parts_32 rfl
theorem dX12_parts_33 : decode cX12_parts 33 = .ok (.invokevirtual 388, 3) := by decide +kernel
theorem tX12_parts_33 {d : Nat} {l0 l1 l2 : Option Value} {y0 y1 : Value} {a : Nat} {m : jmM} {Q : Option Value → jmM → Prop} : AW d 258 33 [l0, l1, l2] [y0, y1, .ref a] m Q ↔ (mS m a).1 = 12 ∧ CC d 257 [.ref a, y1, y0] m (jK d 258 36 [l0, l1, l2] [] Q) := A_callV hB_X12_parts dX12_parts_33 hO_X12_parts fS_12_388 ⟨Nat.le_of_ble_eq_true rfl, Nat.le_of_ble_eq_true rfl⟩ rfl rfl rfl
theorem dX12_parts_36 : decode cX12_parts 36 = .ok (.goto 6, 3) := by decide +kernel
theorem tX12_parts_36 {d : Nat} {l0 l1 l2 : Option Value} {v0 : Value} {m : jmM} {Q : Option Value → jmM → Prop} : AW d 258 36 [l0, l1, l2] [v0] m Q ↔ AW d 258 42 [l0, l1, l2] [v0] m Q := A_goto hB_X12_parts dX12_parts_36 (by decide)
theorem dX12_parts_39 : decode cX12_parts 39 = .ok (.ldc2_w 384, 3) := by decide +kernel
theorem tX12_parts_39 {d : Nat} {l0 l1 l2 : Option Value} {m : jmM} {Q : Option Value → jmM → Prop} : AW d 258 39 [l0, l1, l2] [] m Q ↔ AW d 258 42 [l0, l1, l2] [.long (-1)] m Q := A_ldc2_w hB_X12_parts dX12_parts_39 hO_X12_parts fL2_12_384
theorem dX12_parts_42 : decode cX12_parts 42 = .ok (.lreturn, 1) := by decide +kernel
theorem tX12_parts_42 {d : Nat} {l0 l1 l2 : Option Value} {x : Int64} {m : jmM} {Q : Option Value → jmM → Prop} : AW d 258 42 [l0, l1, l2] [.long x] m Q ↔ Q (some (.long x)) m := A_lreturn hB_X12_parts dX12_parts_42 hR_X12_parts
theorem hB_X12_want : jB 259 = cX12_want := rfl
theorem hO_X12_want : jO 259 = 12 := rfl
theorem hR_X12_want : jRt 259 = (some .int) := rfl
theorem nX12_want (d : Nat) (x0 : Nat) (x1 : Int32) (x2 : Int32) (x3 : Int32) (x4 : Int32) (x5 : Int32) (x6 : Int32) (m : jmM) (Q : Option Value → jmM → Prop) : CC (d + 1) 259 [.ref x0, .int x1, .int x2, .int x3, .int x4, .int x5, .int x6] m Q ↔ AW d 259 0 [some (.ref x0), some (.int x1), some (.int x2), some (.int x3), some (.int x4), some (.int x5), some (.int x6)] [] m Q := CC_body (Nat.le_of_ble_eq_true rfl)
theorem dX12_want_0 : decode cX12_want 0 = .ok (.aload_n 0, 1) := by decide +kernel
theorem tX12_want_0 {d : Nat} {l1 l2 l3 l4 l5 l6 : Option Value} {x : Nat} {m : jmM} {Q : Option Value → jmM → Prop} : AW d 259 0 [some (.ref x), l1, l2, l3, l4, l5, l6] [] m Q ↔ AW d 259 1 [some (.ref x), l1, l2, l3, l4, l5, l6] [.ref x] m Q := A_aload_n hB_X12_want dX12_want_0 rfl
theorem dX12_want_1 : decode cX12_want 1 = .ok (.getfield 349, 3) := by decide +kernel
theorem tX12_want_1 {d : Nat} {l0 l1 l2 l3 l4 l5 l6 : Option Value} {a : Nat} {m : jmM} {Q : Option Value → jmM → Prop} : AW d 259 1 [l0, l1, l2, l3, l4, l5, l6] [.ref a] m Q ↔ (mS m a).1 = 12 ∧ AW d 259 4 [l0, l1, l2, l3, l4, l5, l6] [.int (mI m a 32)] m Q := A_getfield (f := fun m a => .int (mI m a 32)) hB_X12_want dX12_want_1 hO_X12_want fF_12_349 rfl
theorem dX12_want_4 : decode cX12_want 4 = .ok (.bipush 8, 2) := by decide +kernel
theorem tX12_want_4 {d : Nat} {l0 l1 l2 l3 l4 l5 l6 : Option Value} {v0 : Value} {m : jmM} {Q : Option Value → jmM → Prop} : AW d 259 4 [l0, l1, l2, l3, l4, l5, l6] [v0] m Q ↔ AW d 259 6 [l0, l1, l2, l3, l4, l5, l6] [.int 8, v0] m Q := A_bipush hB_X12_want dX12_want_4 rfl
theorem dX12_want_6 : decode cX12_want 6 = .ok (.if_icmp .eq 79, 3) := by decide +kernel
theorem tX12_want_6 {d : Nat} {l0 l1 l2 l3 l4 l5 l6 : Option Value} {x y : Int32} {m : jmM} {Q : Option Value → jmM → Prop} : AW d 259 6 [l0, l1, l2, l3, l4, l5, l6] [.int y, .int x] m Q ↔ if x = y then AW d 259 85 [l0, l1, l2, l3, l4, l5, l6] [] m Q else AW d 259 9 [l0, l1, l2, l3, l4, l5, l6] [] m Q := A_icmp_eq hB_X12_want dX12_want_6 (by decide)
theorem dX12_want_9 : decode cX12_want 9 = .ok (.iload_n 1, 1) := by decide +kernel
theorem tX12_want_9 {d : Nat} {l0 l2 l3 l4 l5 l6 : Option Value} {x : Int32} {m : jmM} {Q : Option Value → jmM → Prop} : AW d 259 9 [l0, some (.int x), l2, l3, l4, l5, l6] [] m Q ↔ AW d 259 10 [l0, some (.int x), l2, l3, l4, l5, l6] [.int x] m Q := A_iload_n hB_X12_want dX12_want_9 rfl
theorem dX12_want_10 : decode cX12_want 10 = .ok (.i2l, 1) := by decide +kernel
theorem tX12_want_10 {d : Nat} {l0 l1 l2 l3 l4 l5 l6 : Option Value} {x : Int32} {m : jmM} {Q : Option Value → jmM → Prop} : AW d 259 10 [l0, l1, l2, l3, l4, l5, l6] [.int x] m Q ↔ AW d 259 11 [l0, l1, l2, l3, l4, l5, l6] [.long x.toInt64] m Q := A_i2l hB_X12_want dX12_want_10
theorem dX12_want_11 : decode cX12_want 11 = .ok (.lconst 0, 1) := by decide +kernel
theorem tX12_want_11 {d : Nat} {l0 l1 l2 l3 l4 l5 l6 : Option Value} {v0 : Value} {m : jmM} {Q : Option Value → jmM → Prop} : AW d 259 11 [l0, l1, l2, l3, l4, l5, l6] [v0] m Q ↔ AW d 259 12 [l0, l1, l2, l3, l4, l5, l6] [.long 0, v0] m Q := A_lconst hB_X12_want dX12_want_11 (by decide)
theorem dX12_want_12 : decode cX12_want 12 = .ok (.ldc2_w 279, 3) := by decide +kernel
theorem tX12_want_12 {d : Nat} {l0 l1 l2 l3 l4 l5 l6 : Option Value} {v0 v1 : Value} {m : jmM} {Q : Option Value → jmM → Prop} : AW d 259 12 [l0, l1, l2, l3, l4, l5, l6] [v0, v1] m Q ↔ AW d 259 15 [l0, l1, l2, l3, l4, l5, l6] [.long 5, v0, v1] m Q := A_ldc2_w hB_X12_want dX12_want_12 hO_X12_want fL2_12_279
theorem dX12_want_15 : decode cX12_want 15 = .ok (.invokestatic 281, 3) := by decide +kernel
theorem tX12_want_15 {d : Nat} {l0 l1 l2 l3 l4 l5 l6 : Option Value} {y0 y1 y2 : Value} {m : jmM} {Q : Option Value → jmM → Prop} : AW d 259 15 [l0, l1, l2, l3, l4, l5, l6] [y0, y1, y2] m Q ↔ CC d 189 [y2, y1, y0] m (jK d 259 18 [l0, l1, l2, l3, l4, l5, l6] [] Q) := A_callS0 hB_X12_want dX12_want_15 hO_X12_want fS_12_281 ⟨Nat.le_of_ble_eq_true rfl, Nat.le_of_ble_eq_true rfl⟩ rfl rfl
theorem dX12_want_18 : decode cX12_want 18 = .ok (.ifCond .eq 67, 3) := by decide +kernel
theorem tX12_want_18 {d : Nat} {l0 l1 l2 l3 l4 l5 l6 : Option Value} {x : Int32} {m : jmM} {Q : Option Value → jmM → Prop} : AW d 259 18 [l0, l1, l2, l3, l4, l5, l6] [.int x] m Q ↔ if x = 0 then AW d 259 85 [l0, l1, l2, l3, l4, l5, l6] [] m Q else AW d 259 21 [l0, l1, l2, l3, l4, l5, l6] [] m Q := A_if_eq hB_X12_want dX12_want_18 (by decide)
theorem dX12_want_21 : decode cX12_want 21 = .ok (.iload_n 2, 1) := by decide +kernel
theorem tX12_want_21 {d : Nat} {l0 l1 l3 l4 l5 l6 : Option Value} {x : Int32} {m : jmM} {Q : Option Value → jmM → Prop} : AW d 259 21 [l0, l1, some (.int x), l3, l4, l5, l6] [] m Q ↔ AW d 259 22 [l0, l1, some (.int x), l3, l4, l5, l6] [.int x] m Q := A_iload_n hB_X12_want dX12_want_21 rfl
theorem dX12_want_22 : decode cX12_want 22 = .ok (.i2l, 1) := by decide +kernel
theorem tX12_want_22 {d : Nat} {l0 l1 l2 l3 l4 l5 l6 : Option Value} {x : Int32} {m : jmM} {Q : Option Value → jmM → Prop} : AW d 259 22 [l0, l1, l2, l3, l4, l5, l6] [.int x] m Q ↔ AW d 259 23 [l0, l1, l2, l3, l4, l5, l6] [.long x.toInt64] m Q := A_i2l hB_X12_want dX12_want_22
theorem dX12_want_23 : decode cX12_want 23 = .ok (.lconst 0, 1) := by decide +kernel
theorem tX12_want_23 {d : Nat} {l0 l1 l2 l3 l4 l5 l6 : Option Value} {v0 : Value} {m : jmM} {Q : Option Value → jmM → Prop} : AW d 259 23 [l0, l1, l2, l3, l4, l5, l6] [v0] m Q ↔ AW d 259 24 [l0, l1, l2, l3, l4, l5, l6] [.long 0, v0] m Q := A_lconst hB_X12_want dX12_want_23 (by decide)
theorem dX12_want_24 : decode cX12_want 24 = .ok (.ldc2_w 392, 3) := by decide +kernel
theorem tX12_want_24 {d : Nat} {l0 l1 l2 l3 l4 l5 l6 : Option Value} {v0 v1 : Value} {m : jmM} {Q : Option Value → jmM → Prop} : AW d 259 24 [l0, l1, l2, l3, l4, l5, l6] [v0, v1] m Q ↔ AW d 259 27 [l0, l1, l2, l3, l4, l5, l6] [.long 1000000000, v0, v1] m Q := A_ldc2_w hB_X12_want dX12_want_24 hO_X12_want fL2_12_392
theorem dX12_want_27 : decode cX12_want 27 = .ok (.invokestatic 281, 3) := by decide +kernel
theorem tX12_want_27 {d : Nat} {l0 l1 l2 l3 l4 l5 l6 : Option Value} {y0 y1 y2 : Value} {m : jmM} {Q : Option Value → jmM → Prop} : AW d 259 27 [l0, l1, l2, l3, l4, l5, l6] [y0, y1, y2] m Q ↔ CC d 189 [y2, y1, y0] m (jK d 259 30 [l0, l1, l2, l3, l4, l5, l6] [] Q) := A_callS0 hB_X12_want dX12_want_27 hO_X12_want fS_12_281 ⟨Nat.le_of_ble_eq_true rfl, Nat.le_of_ble_eq_true rfl⟩ rfl rfl
theorem dX12_want_30 : decode cX12_want 30 = .ok (.ifCond .eq 55, 3) := by decide +kernel
theorem tX12_want_30 {d : Nat} {l0 l1 l2 l3 l4 l5 l6 : Option Value} {x : Int32} {m : jmM} {Q : Option Value → jmM → Prop} : AW d 259 30 [l0, l1, l2, l3, l4, l5, l6] [.int x] m Q ↔ if x = 0 then AW d 259 85 [l0, l1, l2, l3, l4, l5, l6] [] m Q else AW d 259 33 [l0, l1, l2, l3, l4, l5, l6] [] m Q := A_if_eq hB_X12_want dX12_want_30 (by decide)
theorem dX12_want_33 : decode cX12_want 33 = .ok (.iload_n 3, 1) := by decide +kernel
theorem tX12_want_33 {d : Nat} {l0 l1 l2 l4 l5 l6 : Option Value} {x : Int32} {m : jmM} {Q : Option Value → jmM → Prop} : AW d 259 33 [l0, l1, l2, some (.int x), l4, l5, l6] [] m Q ↔ AW d 259 34 [l0, l1, l2, some (.int x), l4, l5, l6] [.int x] m Q := A_iload_n hB_X12_want dX12_want_33 rfl
theorem dX12_want_34 : decode cX12_want 34 = .ok (.i2l, 1) := by decide +kernel
theorem tX12_want_34 {d : Nat} {l0 l1 l2 l3 l4 l5 l6 : Option Value} {x : Int32} {m : jmM} {Q : Option Value → jmM → Prop} : AW d 259 34 [l0, l1, l2, l3, l4, l5, l6] [.int x] m Q ↔ AW d 259 35 [l0, l1, l2, l3, l4, l5, l6] [.long x.toInt64] m Q := A_i2l hB_X12_want dX12_want_34
theorem dX12_want_35 : decode cX12_want 35 = .ok (.iload_n 2, 1) := by decide +kernel
theorem tX12_want_35 {d : Nat} {l0 l1 l3 l4 l5 l6 : Option Value} {v0 : Value} {x : Int32} {m : jmM} {Q : Option Value → jmM → Prop} : AW d 259 35 [l0, l1, some (.int x), l3, l4, l5, l6] [v0] m Q ↔ AW d 259 36 [l0, l1, some (.int x), l3, l4, l5, l6] [.int x, v0] m Q := A_iload_n hB_X12_want dX12_want_35 rfl
theorem dX12_want_36 : decode cX12_want 36 = .ok (.i2l, 1) := by decide +kernel
theorem tX12_want_36 {d : Nat} {l0 l1 l2 l3 l4 l5 l6 : Option Value} {v1 : Value} {x : Int32} {m : jmM} {Q : Option Value → jmM → Prop} : AW d 259 36 [l0, l1, l2, l3, l4, l5, l6] [.int x, v1] m Q ↔ AW d 259 37 [l0, l1, l2, l3, l4, l5, l6] [.long x.toInt64, v1] m Q := A_i2l hB_X12_want dX12_want_36
theorem dX12_want_37 : decode cX12_want 37 = .ok (.ldc2_w 392, 3) := by decide +kernel
theorem tX12_want_37 {d : Nat} {l0 l1 l2 l3 l4 l5 l6 : Option Value} {v0 v1 : Value} {m : jmM} {Q : Option Value → jmM → Prop} : AW d 259 37 [l0, l1, l2, l3, l4, l5, l6] [v0, v1] m Q ↔ AW d 259 40 [l0, l1, l2, l3, l4, l5, l6] [.long 1000000000, v0, v1] m Q := A_ldc2_w hB_X12_want dX12_want_37 hO_X12_want fL2_12_392
theorem dX12_want_40 : decode cX12_want 40 = .ok (.invokestatic 281, 3) := by decide +kernel
theorem tX12_want_40 {d : Nat} {l0 l1 l2 l3 l4 l5 l6 : Option Value} {y0 y1 y2 : Value} {m : jmM} {Q : Option Value → jmM → Prop} : AW d 259 40 [l0, l1, l2, l3, l4, l5, l6] [y0, y1, y2] m Q ↔ CC d 189 [y2, y1, y0] m (jK d 259 43 [l0, l1, l2, l3, l4, l5, l6] [] Q) := A_callS0 hB_X12_want dX12_want_40 hO_X12_want fS_12_281 ⟨Nat.le_of_ble_eq_true rfl, Nat.le_of_ble_eq_true rfl⟩ rfl rfl
theorem dX12_want_43 : decode cX12_want 43 = .ok (.ifCond .eq 42, 3) := by decide +kernel
theorem tX12_want_43 {d : Nat} {l0 l1 l2 l3 l4 l5 l6 : Option Value} {x : Int32} {m : jmM} {Q : Option Value → jmM → Prop} : AW d 259 43 [l0, l1, l2, l3, l4, l5, l6] [.int x] m Q ↔ if x = 0 then AW d 259 85 [l0, l1, l2, l3, l4, l5, l6] [] m Q else AW d 259 46 [l0, l1, l2, l3, l4, l5, l6] [] m Q := A_if_eq hB_X12_want dX12_want_43 (by decide)
theorem dX12_want_46 : decode cX12_want 46 = .ok (.iload 4, 2) := by decide +kernel
theorem tX12_want_46 {d : Nat} {l0 l1 l2 l3 l5 l6 : Option Value} {x : Int32} {m : jmM} {Q : Option Value → jmM → Prop} : AW d 259 46 [l0, l1, l2, l3, some (.int x), l5, l6] [] m Q ↔ AW d 259 48 [l0, l1, l2, l3, some (.int x), l5, l6] [.int x] m Q := A_iload hB_X12_want dX12_want_46 rfl
theorem dX12_want_48 : decode cX12_want 48 = .ok (.i2l, 1) := by decide +kernel
theorem tX12_want_48 {d : Nat} {l0 l1 l2 l3 l4 l5 l6 : Option Value} {x : Int32} {m : jmM} {Q : Option Value → jmM → Prop} : AW d 259 48 [l0, l1, l2, l3, l4, l5, l6] [.int x] m Q ↔ AW d 259 49 [l0, l1, l2, l3, l4, l5, l6] [.long x.toInt64] m Q := A_i2l hB_X12_want dX12_want_48
theorem dX12_want_49 : decode cX12_want 49 = .ok (.lconst 0, 1) := by decide +kernel
theorem tX12_want_49 {d : Nat} {l0 l1 l2 l3 l4 l5 l6 : Option Value} {v0 : Value} {m : jmM} {Q : Option Value → jmM → Prop} : AW d 259 49 [l0, l1, l2, l3, l4, l5, l6] [v0] m Q ↔ AW d 259 50 [l0, l1, l2, l3, l4, l5, l6] [.long 0, v0] m Q := A_lconst hB_X12_want dX12_want_49 (by decide)
theorem dX12_want_50 : decode cX12_want 50 = .ok (.ldc2_w 291, 3) := by decide +kernel
theorem tX12_want_50 {d : Nat} {l0 l1 l2 l3 l4 l5 l6 : Option Value} {v0 v1 : Value} {m : jmM} {Q : Option Value → jmM → Prop} : AW d 259 50 [l0, l1, l2, l3, l4, l5, l6] [v0, v1] m Q ↔ AW d 259 53 [l0, l1, l2, l3, l4, l5, l6] [.long 9999, v0, v1] m Q := A_ldc2_w hB_X12_want dX12_want_50 hO_X12_want fL2_12_291
theorem dX12_want_53 : decode cX12_want 53 = .ok (.invokestatic 281, 3) := by decide +kernel
theorem tX12_want_53 {d : Nat} {l0 l1 l2 l3 l4 l5 l6 : Option Value} {y0 y1 y2 : Value} {m : jmM} {Q : Option Value → jmM → Prop} : AW d 259 53 [l0, l1, l2, l3, l4, l5, l6] [y0, y1, y2] m Q ↔ CC d 189 [y2, y1, y0] m (jK d 259 56 [l0, l1, l2, l3, l4, l5, l6] [] Q) := A_callS0 hB_X12_want dX12_want_53 hO_X12_want fS_12_281 ⟨Nat.le_of_ble_eq_true rfl, Nat.le_of_ble_eq_true rfl⟩ rfl rfl
theorem dX12_want_56 : decode cX12_want 56 = .ok (.ifCond .eq 29, 3) := by decide +kernel
theorem tX12_want_56 {d : Nat} {l0 l1 l2 l3 l4 l5 l6 : Option Value} {x : Int32} {m : jmM} {Q : Option Value → jmM → Prop} : AW d 259 56 [l0, l1, l2, l3, l4, l5, l6] [.int x] m Q ↔ if x = 0 then AW d 259 85 [l0, l1, l2, l3, l4, l5, l6] [] m Q else AW d 259 59 [l0, l1, l2, l3, l4, l5, l6] [] m Q := A_if_eq hB_X12_want dX12_want_56 (by decide)
theorem dX12_want_59 : decode cX12_want 59 = .ok (.iload 5, 2) := by decide +kernel
theorem tX12_want_59 {d : Nat} {l0 l1 l2 l3 l4 l6 : Option Value} {x : Int32} {m : jmM} {Q : Option Value → jmM → Prop} : AW d 259 59 [l0, l1, l2, l3, l4, some (.int x), l6] [] m Q ↔ AW d 259 61 [l0, l1, l2, l3, l4, some (.int x), l6] [.int x] m Q := A_iload hB_X12_want dX12_want_59 rfl
theorem dX12_want_61 : decode cX12_want 61 = .ok (.i2l, 1) := by decide +kernel
theorem tX12_want_61 {d : Nat} {l0 l1 l2 l3 l4 l5 l6 : Option Value} {x : Int32} {m : jmM} {Q : Option Value → jmM → Prop} : AW d 259 61 [l0, l1, l2, l3, l4, l5, l6] [.int x] m Q ↔ AW d 259 62 [l0, l1, l2, l3, l4, l5, l6] [.long x.toInt64] m Q := A_i2l hB_X12_want dX12_want_61
theorem dX12_want_62 : decode cX12_want 62 = .ok (.lconst 1, 1) := by decide +kernel
theorem tX12_want_62 {d : Nat} {l0 l1 l2 l3 l4 l5 l6 : Option Value} {v0 : Value} {m : jmM} {Q : Option Value → jmM → Prop} : AW d 259 62 [l0, l1, l2, l3, l4, l5, l6] [v0] m Q ↔ AW d 259 63 [l0, l1, l2, l3, l4, l5, l6] [.long 1, v0] m Q := A_lconst hB_X12_want dX12_want_62 (by decide)
theorem dX12_want_63 : decode cX12_want 63 = .ok (.ldc2_w 291, 3) := by decide +kernel
theorem tX12_want_63 {d : Nat} {l0 l1 l2 l3 l4 l5 l6 : Option Value} {v0 v1 : Value} {m : jmM} {Q : Option Value → jmM → Prop} : AW d 259 63 [l0, l1, l2, l3, l4, l5, l6] [v0, v1] m Q ↔ AW d 259 66 [l0, l1, l2, l3, l4, l5, l6] [.long 9999, v0, v1] m Q := A_ldc2_w hB_X12_want dX12_want_63 hO_X12_want fL2_12_291
theorem dX12_want_66 : decode cX12_want 66 = .ok (.invokestatic 281, 3) := by decide +kernel
theorem tX12_want_66 {d : Nat} {l0 l1 l2 l3 l4 l5 l6 : Option Value} {y0 y1 y2 : Value} {m : jmM} {Q : Option Value → jmM → Prop} : AW d 259 66 [l0, l1, l2, l3, l4, l5, l6] [y0, y1, y2] m Q ↔ CC d 189 [y2, y1, y0] m (jK d 259 69 [l0, l1, l2, l3, l4, l5, l6] [] Q) := A_callS0 hB_X12_want dX12_want_66 hO_X12_want fS_12_281 ⟨Nat.le_of_ble_eq_true rfl, Nat.le_of_ble_eq_true rfl⟩ rfl rfl
theorem dX12_want_69 : decode cX12_want 69 = .ok (.ifCond .eq 16, 3) := by decide +kernel
theorem tX12_want_69 {d : Nat} {l0 l1 l2 l3 l4 l5 l6 : Option Value} {x : Int32} {m : jmM} {Q : Option Value → jmM → Prop} : AW d 259 69 [l0, l1, l2, l3, l4, l5, l6] [.int x] m Q ↔ if x = 0 then AW d 259 85 [l0, l1, l2, l3, l4, l5, l6] [] m Q else AW d 259 72 [l0, l1, l2, l3, l4, l5, l6] [] m Q := A_if_eq hB_X12_want dX12_want_69 (by decide)
theorem dX12_want_72 : decode cX12_want 72 = .ok (.iload 6, 2) := by decide +kernel
theorem tX12_want_72 {d : Nat} {l0 l1 l2 l3 l4 l5 : Option Value} {x : Int32} {m : jmM} {Q : Option Value → jmM → Prop} : AW d 259 72 [l0, l1, l2, l3, l4, l5, some (.int x)] [] m Q ↔ AW d 259 74 [l0, l1, l2, l3, l4, l5, some (.int x)] [.int x] m Q := A_iload hB_X12_want dX12_want_72 rfl
theorem dX12_want_74 : decode cX12_want 74 = .ok (.i2l, 1) := by decide +kernel
theorem tX12_want_74 {d : Nat} {l0 l1 l2 l3 l4 l5 l6 : Option Value} {x : Int32} {m : jmM} {Q : Option Value → jmM → Prop} : AW d 259 74 [l0, l1, l2, l3, l4, l5, l6] [.int x] m Q ↔ AW d 259 75 [l0, l1, l2, l3, l4, l5, l6] [.long x.toInt64] m Q := A_i2l hB_X12_want dX12_want_74
theorem dX12_want_75 : decode cX12_want 75 = .ok (.lconst 1, 1) := by decide +kernel
theorem tX12_want_75 {d : Nat} {l0 l1 l2 l3 l4 l5 l6 : Option Value} {v0 : Value} {m : jmM} {Q : Option Value → jmM → Prop} : AW d 259 75 [l0, l1, l2, l3, l4, l5, l6] [v0] m Q ↔ AW d 259 76 [l0, l1, l2, l3, l4, l5, l6] [.long 1, v0] m Q := A_lconst hB_X12_want dX12_want_75 (by decide)
theorem dX12_want_76 : decode cX12_want 76 = .ok (.ldc2_w 293, 3) := by decide +kernel
theorem tX12_want_76 {d : Nat} {l0 l1 l2 l3 l4 l5 l6 : Option Value} {v0 v1 : Value} {m : jmM} {Q : Option Value → jmM → Prop} : AW d 259 76 [l0, l1, l2, l3, l4, l5, l6] [v0, v1] m Q ↔ AW d 259 79 [l0, l1, l2, l3, l4, l5, l6] [.long 999, v0, v1] m Q := A_ldc2_w hB_X12_want dX12_want_76 hO_X12_want fL2_12_293
theorem dX12_want_79 : decode cX12_want 79 = .ok (.invokestatic 281, 3) := by decide +kernel
theorem tX12_want_79 {d : Nat} {l0 l1 l2 l3 l4 l5 l6 : Option Value} {y0 y1 y2 : Value} {m : jmM} {Q : Option Value → jmM → Prop} : AW d 259 79 [l0, l1, l2, l3, l4, l5, l6] [y0, y1, y2] m Q ↔ CC d 189 [y2, y1, y0] m (jK d 259 82 [l0, l1, l2, l3, l4, l5, l6] [] Q) := A_callS0 hB_X12_want dX12_want_79 hO_X12_want fS_12_281 ⟨Nat.le_of_ble_eq_true rfl, Nat.le_of_ble_eq_true rfl⟩ rfl rfl
theorem dX12_want_82 : decode cX12_want 82 = .ok (.ifCond .ne 5, 3) := by decide +kernel
theorem tX12_want_82 {d : Nat} {l0 l1 l2 l3 l4 l5 l6 : Option Value} {x : Int32} {m : jmM} {Q : Option Value → jmM → Prop} : AW d 259 82 [l0, l1, l2, l3, l4, l5, l6] [.int x] m Q ↔ if x = 0 then AW d 259 85 [l0, l1, l2, l3, l4, l5, l6] [] m Q else AW d 259 87 [l0, l1, l2, l3, l4, l5, l6] [] m Q := A_if_ne hB_X12_want dX12_want_82 (by decide)
theorem dX12_want_85 : decode cX12_want 85 = .ok (.iconst (-1), 1) := by decide +kernel
theorem tX12_want_85 {d : Nat} {l0 l1 l2 l3 l4 l5 l6 : Option Value} {m : jmM} {Q : Option Value → jmM → Prop} : AW d 259 85 [l0, l1, l2, l3, l4, l5, l6] [] m Q ↔ AW d 259 86 [l0, l1, l2, l3, l4, l5, l6] [.int (-1)] m Q := A_iconst hB_X12_want dX12_want_85 (by decide)
theorem dX12_want_86 : decode cX12_want 86 = .ok (.ireturn, 1) := by decide +kernel
theorem tX12_want_86 {d : Nat} {l0 l1 l2 l3 l4 l5 l6 : Option Value} {x : Int32} {m : jmM} {Q : Option Value → jmM → Prop} : AW d 259 86 [l0, l1, l2, l3, l4, l5, l6] [.int x] m Q ↔ Q (some (.int x)) m := A_ireturn hB_X12_want dX12_want_86 hR_X12_want
theorem dX12_want_87 : decode cX12_want 87 = .ok (.aload_n 0, 1) := by decide +kernel
theorem tX12_want_87 {d : Nat} {l1 l2 l3 l4 l5 l6 : Option Value} {x : Nat} {m : jmM} {Q : Option Value → jmM → Prop} : AW d 259 87 [some (.ref x), l1, l2, l3, l4, l5, l6] [] m Q ↔ AW d 259 88 [some (.ref x), l1, l2, l3, l4, l5, l6] [.ref x] m Q := A_aload_n hB_X12_want dX12_want_87 rfl
theorem dX12_want_88 : decode cX12_want 88 = .ok (.getfield 73, 3) := by decide +kernel
theorem tX12_want_88 {d : Nat} {l0 l1 l2 l3 l4 l5 l6 : Option Value} {a : Nat} {m : jmM} {Q : Option Value → jmM → Prop} : AW d 259 88 [l0, l1, l2, l3, l4, l5, l6] [.ref a] m Q ↔ (mS m a).1 = 12 ∧ AW d 259 91 [l0, l1, l2, l3, l4, l5, l6] [va_rf (mR m a 33)] m Q := A_getfield (f := fun m a => va_rf (mR m a 33)) hB_X12_want dX12_want_88 hO_X12_want fF_12_73 rfl
theorem dX12_want_91 : decode cX12_want 91 = .ok (.bipush 6, 2) := by decide +kernel
theorem tX12_want_91 {d : Nat} {l0 l1 l2 l3 l4 l5 l6 : Option Value} {v0 : Value} {m : jmM} {Q : Option Value → jmM → Prop} : AW d 259 91 [l0, l1, l2, l3, l4, l5, l6] [v0] m Q ↔ AW d 259 93 [l0, l1, l2, l3, l4, l5, l6] [.int 6, v0] m Q := A_bipush hB_X12_want dX12_want_91 rfl
theorem dX12_want_93 : decode cX12_want 93 = .ok (.aload_n 0, 1) := by decide +kernel
theorem tX12_want_93 {d : Nat} {l1 l2 l3 l4 l5 l6 : Option Value} {v0 v1 : Value} {x : Nat} {m : jmM} {Q : Option Value → jmM → Prop} : AW d 259 93 [some (.ref x), l1, l2, l3, l4, l5, l6] [v0, v1] m Q ↔ AW d 259 94 [some (.ref x), l1, l2, l3, l4, l5, l6] [.ref x, v0, v1] m Q := A_aload_n hB_X12_want dX12_want_93 rfl
theorem dX12_want_94 : decode cX12_want 94 = .ok (.getfield 349, 3) := by decide +kernel
theorem tX12_want_94 {d : Nat} {l0 l1 l2 l3 l4 l5 l6 : Option Value} {v1 v2 : Value} {a : Nat} {m : jmM} {Q : Option Value → jmM → Prop} : AW d 259 94 [l0, l1, l2, l3, l4, l5, l6] [.ref a, v1, v2] m Q ↔ (mS m a).1 = 12 ∧ AW d 259 97 [l0, l1, l2, l3, l4, l5, l6] [.int (mI m a 32), v1, v2] m Q := A_getfield (f := fun m a => .int (mI m a 32)) hB_X12_want dX12_want_94 hO_X12_want fF_12_349 rfl
theorem dX12_want_97 : decode cX12_want 97 = .ok (.imul, 1) := by decide +kernel
theorem tX12_want_97 {d : Nat} {l0 l1 l2 l3 l4 l5 l6 : Option Value} {v2 : Value} {x y : Int32} {m : jmM} {Q : Option Value → jmM → Prop} : AW d 259 97 [l0, l1, l2, l3, l4, l5, l6] [.int y, .int x, v2] m Q ↔ AW d 259 98 [l0, l1, l2, l3, l4, l5, l6] [.int (x * y), v2] m Q := A_imul hB_X12_want dX12_want_97
theorem dX12_want_98 : decode cX12_want 98 = .ok (.iload_n 1, 1) := by decide +kernel
theorem tX12_want_98 {d : Nat} {l0 l2 l3 l4 l5 l6 : Option Value} {v0 v1 : Value} {x : Int32} {m : jmM} {Q : Option Value → jmM → Prop} : AW d 259 98 [l0, some (.int x), l2, l3, l4, l5, l6] [v0, v1] m Q ↔ AW d 259 99 [l0, some (.int x), l2, l3, l4, l5, l6] [.int x, v0, v1] m Q := A_iload_n hB_X12_want dX12_want_98 rfl
theorem dX12_want_99 : decode cX12_want 99 = .ok (.iastore, 1) := by decide +kernel
theorem tX12_want_99 {d : Nat} {l0 l1 l2 l3 l4 l5 l6 : Option Value} {x i : Int32} {a : Nat} {m : jmM} {Q : Option Value → jmM → Prop} : AW d 259 99 [l0, l1, l2, l3, l4, l5, l6] [.int x, .int i, .ref a] m Q ↔ ((mS m a).1 = 20 ∧ jIx i (mS m a).2) ∧ AW d 259 100 [l0, l1, l2, l3, l4, l5, l6] [] (cI m a (jup (mI m a) (jx i) x)) Q := A_iastore hB_X12_want dX12_want_99
theorem dX12_want_100 : decode cX12_want 100 = .ok (.aload_n 0, 1) := by decide +kernel
theorem tX12_want_100 {d : Nat} {l1 l2 l3 l4 l5 l6 : Option Value} {x : Nat} {m : jmM} {Q : Option Value → jmM → Prop} : AW d 259 100 [some (.ref x), l1, l2, l3, l4, l5, l6] [] m Q ↔ AW d 259 101 [some (.ref x), l1, l2, l3, l4, l5, l6] [.ref x] m Q := A_aload_n hB_X12_want dX12_want_100 rfl
theorem dX12_want_101 : decode cX12_want 101 = .ok (.getfield 73, 3) := by decide +kernel
theorem tX12_want_101 {d : Nat} {l0 l1 l2 l3 l4 l5 l6 : Option Value} {a : Nat} {m : jmM} {Q : Option Value → jmM → Prop} : AW d 259 101 [l0, l1, l2, l3, l4, l5, l6] [.ref a] m Q ↔ (mS m a).1 = 12 ∧ AW d 259 104 [l0, l1, l2, l3, l4, l5, l6] [va_rf (mR m a 33)] m Q := A_getfield (f := fun m a => va_rf (mR m a 33)) hB_X12_want dX12_want_101 hO_X12_want fF_12_73 rfl
theorem dX12_want_104 : decode cX12_want 104 = .ok (.bipush 6, 2) := by decide +kernel
theorem tX12_want_104 {d : Nat} {l0 l1 l2 l3 l4 l5 l6 : Option Value} {v0 : Value} {m : jmM} {Q : Option Value → jmM → Prop} : AW d 259 104 [l0, l1, l2, l3, l4, l5, l6] [v0] m Q ↔ AW d 259 106 [l0, l1, l2, l3, l4, l5, l6] [.int 6, v0] m Q := A_bipush hB_X12_want dX12_want_104 rfl
theorem dX12_want_106 : decode cX12_want 106 = .ok (.aload_n 0, 1) := by decide +kernel
theorem tX12_want_106 {d : Nat} {l1 l2 l3 l4 l5 l6 : Option Value} {v0 v1 : Value} {x : Nat} {m : jmM} {Q : Option Value → jmM → Prop} : AW d 259 106 [some (.ref x), l1, l2, l3, l4, l5, l6] [v0, v1] m Q ↔ AW d 259 107 [some (.ref x), l1, l2, l3, l4, l5, l6] [.ref x, v0, v1] m Q := A_aload_n hB_X12_want dX12_want_106 rfl
theorem dX12_want_107 : decode cX12_want 107 = .ok (.getfield 349, 3) := by decide +kernel
theorem tX12_want_107 {d : Nat} {l0 l1 l2 l3 l4 l5 l6 : Option Value} {v1 v2 : Value} {a : Nat} {m : jmM} {Q : Option Value → jmM → Prop} : AW d 259 107 [l0, l1, l2, l3, l4, l5, l6] [.ref a, v1, v2] m Q ↔ (mS m a).1 = 12 ∧ AW d 259 110 [l0, l1, l2, l3, l4, l5, l6] [.int (mI m a 32), v1, v2] m Q := A_getfield (f := fun m a => .int (mI m a 32)) hB_X12_want dX12_want_107 hO_X12_want fF_12_349 rfl
theorem dX12_want_110 : decode cX12_want 110 = .ok (.imul, 1) := by decide +kernel
theorem tX12_want_110 {d : Nat} {l0 l1 l2 l3 l4 l5 l6 : Option Value} {v2 : Value} {x y : Int32} {m : jmM} {Q : Option Value → jmM → Prop} : AW d 259 110 [l0, l1, l2, l3, l4, l5, l6] [.int y, .int x, v2] m Q ↔ AW d 259 111 [l0, l1, l2, l3, l4, l5, l6] [.int (x * y), v2] m Q := A_imul hB_X12_want dX12_want_110
theorem dX12_want_111 : decode cX12_want 111 = .ok (.iconst 1, 1) := by decide +kernel
theorem tX12_want_111 {d : Nat} {l0 l1 l2 l3 l4 l5 l6 : Option Value} {v0 v1 : Value} {m : jmM} {Q : Option Value → jmM → Prop} : AW d 259 111 [l0, l1, l2, l3, l4, l5, l6] [v0, v1] m Q ↔ AW d 259 112 [l0, l1, l2, l3, l4, l5, l6] [.int 1, v0, v1] m Q := A_iconst hB_X12_want dX12_want_111 (by decide)
theorem dX12_want_112 : decode cX12_want 112 = .ok (.iadd, 1) := by decide +kernel
theorem tX12_want_112 {d : Nat} {l0 l1 l2 l3 l4 l5 l6 : Option Value} {v2 : Value} {x y : Int32} {m : jmM} {Q : Option Value → jmM → Prop} : AW d 259 112 [l0, l1, l2, l3, l4, l5, l6] [.int y, .int x, v2] m Q ↔ AW d 259 113 [l0, l1, l2, l3, l4, l5, l6] [.int (x + y), v2] m Q := A_iadd hB_X12_want dX12_want_112
theorem dX12_want_113 : decode cX12_want 113 = .ok (.iload_n 2, 1) := by decide +kernel
theorem tX12_want_113 {d : Nat} {l0 l1 l3 l4 l5 l6 : Option Value} {v0 v1 : Value} {x : Int32} {m : jmM} {Q : Option Value → jmM → Prop} : AW d 259 113 [l0, l1, some (.int x), l3, l4, l5, l6] [v0, v1] m Q ↔ AW d 259 114 [l0, l1, some (.int x), l3, l4, l5, l6] [.int x, v0, v1] m Q := A_iload_n hB_X12_want dX12_want_113 rfl
theorem dX12_want_114 : decode cX12_want 114 = .ok (.iastore, 1) := by decide +kernel
theorem tX12_want_114 {d : Nat} {l0 l1 l2 l3 l4 l5 l6 : Option Value} {x i : Int32} {a : Nat} {m : jmM} {Q : Option Value → jmM → Prop} : AW d 259 114 [l0, l1, l2, l3, l4, l5, l6] [.int x, .int i, .ref a] m Q ↔ ((mS m a).1 = 20 ∧ jIx i (mS m a).2) ∧ AW d 259 115 [l0, l1, l2, l3, l4, l5, l6] [] (cI m a (jup (mI m a) (jx i) x)) Q := A_iastore hB_X12_want dX12_want_114
theorem dX12_want_115 : decode cX12_want 115 = .ok (.aload_n 0, 1) := by decide +kernel
theorem tX12_want_115 {d : Nat} {l1 l2 l3 l4 l5 l6 : Option Value} {x : Nat} {m : jmM} {Q : Option Value → jmM → Prop} : AW d 259 115 [some (.ref x), l1, l2, l3, l4, l5, l6] [] m Q ↔ AW d 259 116 [some (.ref x), l1, l2, l3, l4, l5, l6] [.ref x] m Q := A_aload_n hB_X12_want dX12_want_115 rfl
theorem dX12_want_116 : decode cX12_want 116 = .ok (.getfield 73, 3) := by decide +kernel
theorem tX12_want_116 {d : Nat} {l0 l1 l2 l3 l4 l5 l6 : Option Value} {a : Nat} {m : jmM} {Q : Option Value → jmM → Prop} : AW d 259 116 [l0, l1, l2, l3, l4, l5, l6] [.ref a] m Q ↔ (mS m a).1 = 12 ∧ AW d 259 119 [l0, l1, l2, l3, l4, l5, l6] [va_rf (mR m a 33)] m Q := A_getfield (f := fun m a => va_rf (mR m a 33)) hB_X12_want dX12_want_116 hO_X12_want fF_12_73 rfl
theorem dX12_want_119 : decode cX12_want 119 = .ok (.bipush 6, 2) := by decide +kernel
theorem tX12_want_119 {d : Nat} {l0 l1 l2 l3 l4 l5 l6 : Option Value} {v0 : Value} {m : jmM} {Q : Option Value → jmM → Prop} : AW d 259 119 [l0, l1, l2, l3, l4, l5, l6] [v0] m Q ↔ AW d 259 121 [l0, l1, l2, l3, l4, l5, l6] [.int 6, v0] m Q := A_bipush hB_X12_want dX12_want_119 rfl
theorem dX12_want_121 : decode cX12_want 121 = .ok (.aload_n 0, 1) := by decide +kernel
theorem tX12_want_121 {d : Nat} {l1 l2 l3 l4 l5 l6 : Option Value} {v0 v1 : Value} {x : Nat} {m : jmM} {Q : Option Value → jmM → Prop} : AW d 259 121 [some (.ref x), l1, l2, l3, l4, l5, l6] [v0, v1] m Q ↔ AW d 259 122 [some (.ref x), l1, l2, l3, l4, l5, l6] [.ref x, v0, v1] m Q := A_aload_n hB_X12_want dX12_want_121 rfl
theorem dX12_want_122 : decode cX12_want 122 = .ok (.getfield 349, 3) := by decide +kernel
theorem tX12_want_122 {d : Nat} {l0 l1 l2 l3 l4 l5 l6 : Option Value} {v1 v2 : Value} {a : Nat} {m : jmM} {Q : Option Value → jmM → Prop} : AW d 259 122 [l0, l1, l2, l3, l4, l5, l6] [.ref a, v1, v2] m Q ↔ (mS m a).1 = 12 ∧ AW d 259 125 [l0, l1, l2, l3, l4, l5, l6] [.int (mI m a 32), v1, v2] m Q := A_getfield (f := fun m a => .int (mI m a 32)) hB_X12_want dX12_want_122 hO_X12_want fF_12_349 rfl
theorem dX12_want_125 : decode cX12_want 125 = .ok (.imul, 1) := by decide +kernel
theorem tX12_want_125 {d : Nat} {l0 l1 l2 l3 l4 l5 l6 : Option Value} {v2 : Value} {x y : Int32} {m : jmM} {Q : Option Value → jmM → Prop} : AW d 259 125 [l0, l1, l2, l3, l4, l5, l6] [.int y, .int x, v2] m Q ↔ AW d 259 126 [l0, l1, l2, l3, l4, l5, l6] [.int (x * y), v2] m Q := A_imul hB_X12_want dX12_want_125
theorem dX12_want_126 : decode cX12_want 126 = .ok (.iconst 2, 1) := by decide +kernel
theorem tX12_want_126 {d : Nat} {l0 l1 l2 l3 l4 l5 l6 : Option Value} {v0 v1 : Value} {m : jmM} {Q : Option Value → jmM → Prop} : AW d 259 126 [l0, l1, l2, l3, l4, l5, l6] [v0, v1] m Q ↔ AW d 259 127 [l0, l1, l2, l3, l4, l5, l6] [.int 2, v0, v1] m Q := A_iconst hB_X12_want dX12_want_126 (by decide)
theorem dX12_want_127 : decode cX12_want 127 = .ok (.iadd, 1) := by decide +kernel
theorem tX12_want_127 {d : Nat} {l0 l1 l2 l3 l4 l5 l6 : Option Value} {v2 : Value} {x y : Int32} {m : jmM} {Q : Option Value → jmM → Prop} : AW d 259 127 [l0, l1, l2, l3, l4, l5, l6] [.int y, .int x, v2] m Q ↔ AW d 259 128 [l0, l1, l2, l3, l4, l5, l6] [.int (x + y), v2] m Q := A_iadd hB_X12_want dX12_want_127
theorem dX12_want_128 : decode cX12_want 128 = .ok (.iload_n 3, 1) := by decide +kernel
theorem tX12_want_128 {d : Nat} {l0 l1 l2 l4 l5 l6 : Option Value} {v0 v1 : Value} {x : Int32} {m : jmM} {Q : Option Value → jmM → Prop} : AW d 259 128 [l0, l1, l2, some (.int x), l4, l5, l6] [v0, v1] m Q ↔ AW d 259 129 [l0, l1, l2, some (.int x), l4, l5, l6] [.int x, v0, v1] m Q := A_iload_n hB_X12_want dX12_want_128 rfl
theorem dX12_want_129 : decode cX12_want 129 = .ok (.iastore, 1) := by decide +kernel
theorem tX12_want_129 {d : Nat} {l0 l1 l2 l3 l4 l5 l6 : Option Value} {x i : Int32} {a : Nat} {m : jmM} {Q : Option Value → jmM → Prop} : AW d 259 129 [l0, l1, l2, l3, l4, l5, l6] [.int x, .int i, .ref a] m Q ↔ ((mS m a).1 = 20 ∧ jIx i (mS m a).2) ∧ AW d 259 130 [l0, l1, l2, l3, l4, l5, l6] [] (cI m a (jup (mI m a) (jx i) x)) Q := A_iastore hB_X12_want dX12_want_129
theorem dX12_want_130 : decode cX12_want 130 = .ok (.aload_n 0, 1) := by decide +kernel
theorem tX12_want_130 {d : Nat} {l1 l2 l3 l4 l5 l6 : Option Value} {x : Nat} {m : jmM} {Q : Option Value → jmM → Prop} : AW d 259 130 [some (.ref x), l1, l2, l3, l4, l5, l6] [] m Q ↔ AW d 259 131 [some (.ref x), l1, l2, l3, l4, l5, l6] [.ref x] m Q := A_aload_n hB_X12_want dX12_want_130 rfl
theorem dX12_want_131 : decode cX12_want 131 = .ok (.getfield 73, 3) := by decide +kernel
theorem tX12_want_131 {d : Nat} {l0 l1 l2 l3 l4 l5 l6 : Option Value} {a : Nat} {m : jmM} {Q : Option Value → jmM → Prop} : AW d 259 131 [l0, l1, l2, l3, l4, l5, l6] [.ref a] m Q ↔ (mS m a).1 = 12 ∧ AW d 259 134 [l0, l1, l2, l3, l4, l5, l6] [va_rf (mR m a 33)] m Q := A_getfield (f := fun m a => va_rf (mR m a 33)) hB_X12_want dX12_want_131 hO_X12_want fF_12_73 rfl
theorem dX12_want_134 : decode cX12_want 134 = .ok (.bipush 6, 2) := by decide +kernel
theorem tX12_want_134 {d : Nat} {l0 l1 l2 l3 l4 l5 l6 : Option Value} {v0 : Value} {m : jmM} {Q : Option Value → jmM → Prop} : AW d 259 134 [l0, l1, l2, l3, l4, l5, l6] [v0] m Q ↔ AW d 259 136 [l0, l1, l2, l3, l4, l5, l6] [.int 6, v0] m Q := A_bipush hB_X12_want dX12_want_134 rfl
theorem dX12_want_136 : decode cX12_want 136 = .ok (.aload_n 0, 1) := by decide +kernel
theorem tX12_want_136 {d : Nat} {l1 l2 l3 l4 l5 l6 : Option Value} {v0 v1 : Value} {x : Nat} {m : jmM} {Q : Option Value → jmM → Prop} : AW d 259 136 [some (.ref x), l1, l2, l3, l4, l5, l6] [v0, v1] m Q ↔ AW d 259 137 [some (.ref x), l1, l2, l3, l4, l5, l6] [.ref x, v0, v1] m Q := A_aload_n hB_X12_want dX12_want_136 rfl
theorem dX12_want_137 : decode cX12_want 137 = .ok (.getfield 349, 3) := by decide +kernel
theorem tX12_want_137 {d : Nat} {l0 l1 l2 l3 l4 l5 l6 : Option Value} {v1 v2 : Value} {a : Nat} {m : jmM} {Q : Option Value → jmM → Prop} : AW d 259 137 [l0, l1, l2, l3, l4, l5, l6] [.ref a, v1, v2] m Q ↔ (mS m a).1 = 12 ∧ AW d 259 140 [l0, l1, l2, l3, l4, l5, l6] [.int (mI m a 32), v1, v2] m Q := A_getfield (f := fun m a => .int (mI m a 32)) hB_X12_want dX12_want_137 hO_X12_want fF_12_349 rfl
theorem dX12_want_140 : decode cX12_want 140 = .ok (.imul, 1) := by decide +kernel
theorem tX12_want_140 {d : Nat} {l0 l1 l2 l3 l4 l5 l6 : Option Value} {v2 : Value} {x y : Int32} {m : jmM} {Q : Option Value → jmM → Prop} : AW d 259 140 [l0, l1, l2, l3, l4, l5, l6] [.int y, .int x, v2] m Q ↔ AW d 259 141 [l0, l1, l2, l3, l4, l5, l6] [.int (x * y), v2] m Q := A_imul hB_X12_want dX12_want_140
theorem dX12_want_141 : decode cX12_want 141 = .ok (.iconst 3, 1) := by decide +kernel
theorem tX12_want_141 {d : Nat} {l0 l1 l2 l3 l4 l5 l6 : Option Value} {v0 v1 : Value} {m : jmM} {Q : Option Value → jmM → Prop} : AW d 259 141 [l0, l1, l2, l3, l4, l5, l6] [v0, v1] m Q ↔ AW d 259 142 [l0, l1, l2, l3, l4, l5, l6] [.int 3, v0, v1] m Q := A_iconst hB_X12_want dX12_want_141 (by decide)
theorem dX12_want_142 : decode cX12_want 142 = .ok (.iadd, 1) := by decide +kernel
theorem tX12_want_142 {d : Nat} {l0 l1 l2 l3 l4 l5 l6 : Option Value} {v2 : Value} {x y : Int32} {m : jmM} {Q : Option Value → jmM → Prop} : AW d 259 142 [l0, l1, l2, l3, l4, l5, l6] [.int y, .int x, v2] m Q ↔ AW d 259 143 [l0, l1, l2, l3, l4, l5, l6] [.int (x + y), v2] m Q := A_iadd hB_X12_want dX12_want_142
theorem dX12_want_143 : decode cX12_want 143 = .ok (.iload 4, 2) := by decide +kernel
theorem tX12_want_143 {d : Nat} {l0 l1 l2 l3 l5 l6 : Option Value} {v0 v1 : Value} {x : Int32} {m : jmM} {Q : Option Value → jmM → Prop} : AW d 259 143 [l0, l1, l2, l3, some (.int x), l5, l6] [v0, v1] m Q ↔ AW d 259 145 [l0, l1, l2, l3, some (.int x), l5, l6] [.int x, v0, v1] m Q := A_iload hB_X12_want dX12_want_143 rfl
theorem dX12_want_145 : decode cX12_want 145 = .ok (.iastore, 1) := by decide +kernel
theorem tX12_want_145 {d : Nat} {l0 l1 l2 l3 l4 l5 l6 : Option Value} {x i : Int32} {a : Nat} {m : jmM} {Q : Option Value → jmM → Prop} : AW d 259 145 [l0, l1, l2, l3, l4, l5, l6] [.int x, .int i, .ref a] m Q ↔ ((mS m a).1 = 20 ∧ jIx i (mS m a).2) ∧ AW d 259 146 [l0, l1, l2, l3, l4, l5, l6] [] (cI m a (jup (mI m a) (jx i) x)) Q := A_iastore hB_X12_want dX12_want_145
theorem dX12_want_146 : decode cX12_want 146 = .ok (.aload_n 0, 1) := by decide +kernel
theorem tX12_want_146 {d : Nat} {l1 l2 l3 l4 l5 l6 : Option Value} {x : Nat} {m : jmM} {Q : Option Value → jmM → Prop} : AW d 259 146 [some (.ref x), l1, l2, l3, l4, l5, l6] [] m Q ↔ AW d 259 147 [some (.ref x), l1, l2, l3, l4, l5, l6] [.ref x] m Q := A_aload_n hB_X12_want dX12_want_146 rfl
theorem dX12_want_147 : decode cX12_want 147 = .ok (.getfield 73, 3) := by decide +kernel
theorem tX12_want_147 {d : Nat} {l0 l1 l2 l3 l4 l5 l6 : Option Value} {a : Nat} {m : jmM} {Q : Option Value → jmM → Prop} : AW d 259 147 [l0, l1, l2, l3, l4, l5, l6] [.ref a] m Q ↔ (mS m a).1 = 12 ∧ AW d 259 150 [l0, l1, l2, l3, l4, l5, l6] [va_rf (mR m a 33)] m Q := A_getfield (f := fun m a => va_rf (mR m a 33)) hB_X12_want dX12_want_147 hO_X12_want fF_12_73 rfl
theorem dX12_want_150 : decode cX12_want 150 = .ok (.bipush 6, 2) := by decide +kernel
theorem tX12_want_150 {d : Nat} {l0 l1 l2 l3 l4 l5 l6 : Option Value} {v0 : Value} {m : jmM} {Q : Option Value → jmM → Prop} : AW d 259 150 [l0, l1, l2, l3, l4, l5, l6] [v0] m Q ↔ AW d 259 152 [l0, l1, l2, l3, l4, l5, l6] [.int 6, v0] m Q := A_bipush hB_X12_want dX12_want_150 rfl
theorem dX12_want_152 : decode cX12_want 152 = .ok (.aload_n 0, 1) := by decide +kernel
theorem tX12_want_152 {d : Nat} {l1 l2 l3 l4 l5 l6 : Option Value} {v0 v1 : Value} {x : Nat} {m : jmM} {Q : Option Value → jmM → Prop} : AW d 259 152 [some (.ref x), l1, l2, l3, l4, l5, l6] [v0, v1] m Q ↔ AW d 259 153 [some (.ref x), l1, l2, l3, l4, l5, l6] [.ref x, v0, v1] m Q := A_aload_n hB_X12_want dX12_want_152 rfl
theorem dX12_want_153 : decode cX12_want 153 = .ok (.getfield 349, 3) := by decide +kernel
theorem tX12_want_153 {d : Nat} {l0 l1 l2 l3 l4 l5 l6 : Option Value} {v1 v2 : Value} {a : Nat} {m : jmM} {Q : Option Value → jmM → Prop} : AW d 259 153 [l0, l1, l2, l3, l4, l5, l6] [.ref a, v1, v2] m Q ↔ (mS m a).1 = 12 ∧ AW d 259 156 [l0, l1, l2, l3, l4, l5, l6] [.int (mI m a 32), v1, v2] m Q := A_getfield (f := fun m a => .int (mI m a 32)) hB_X12_want dX12_want_153 hO_X12_want fF_12_349 rfl
theorem dX12_want_156 : decode cX12_want 156 = .ok (.imul, 1) := by decide +kernel
theorem tX12_want_156 {d : Nat} {l0 l1 l2 l3 l4 l5 l6 : Option Value} {v2 : Value} {x y : Int32} {m : jmM} {Q : Option Value → jmM → Prop} : AW d 259 156 [l0, l1, l2, l3, l4, l5, l6] [.int y, .int x, v2] m Q ↔ AW d 259 157 [l0, l1, l2, l3, l4, l5, l6] [.int (x * y), v2] m Q := A_imul hB_X12_want dX12_want_156
theorem dX12_want_157 : decode cX12_want 157 = .ok (.iconst 4, 1) := by decide +kernel
theorem tX12_want_157 {d : Nat} {l0 l1 l2 l3 l4 l5 l6 : Option Value} {v0 v1 : Value} {m : jmM} {Q : Option Value → jmM → Prop} : AW d 259 157 [l0, l1, l2, l3, l4, l5, l6] [v0, v1] m Q ↔ AW d 259 158 [l0, l1, l2, l3, l4, l5, l6] [.int 4, v0, v1] m Q := A_iconst hB_X12_want dX12_want_157 (by decide)
theorem dX12_want_158 : decode cX12_want 158 = .ok (.iadd, 1) := by decide +kernel
theorem tX12_want_158 {d : Nat} {l0 l1 l2 l3 l4 l5 l6 : Option Value} {v2 : Value} {x y : Int32} {m : jmM} {Q : Option Value → jmM → Prop} : AW d 259 158 [l0, l1, l2, l3, l4, l5, l6] [.int y, .int x, v2] m Q ↔ AW d 259 159 [l0, l1, l2, l3, l4, l5, l6] [.int (x + y), v2] m Q := A_iadd hB_X12_want dX12_want_158
theorem dX12_want_159 : decode cX12_want 159 = .ok (.iload 5, 2) := by decide +kernel
theorem tX12_want_159 {d : Nat} {l0 l1 l2 l3 l4 l6 : Option Value} {v0 v1 : Value} {x : Int32} {m : jmM} {Q : Option Value → jmM → Prop} : AW d 259 159 [l0, l1, l2, l3, l4, some (.int x), l6] [v0, v1] m Q ↔ AW d 259 161 [l0, l1, l2, l3, l4, some (.int x), l6] [.int x, v0, v1] m Q := A_iload hB_X12_want dX12_want_159 rfl
theorem dX12_want_161 : decode cX12_want 161 = .ok (.iastore, 1) := by decide +kernel
theorem tX12_want_161 {d : Nat} {l0 l1 l2 l3 l4 l5 l6 : Option Value} {x i : Int32} {a : Nat} {m : jmM} {Q : Option Value → jmM → Prop} : AW d 259 161 [l0, l1, l2, l3, l4, l5, l6] [.int x, .int i, .ref a] m Q ↔ ((mS m a).1 = 20 ∧ jIx i (mS m a).2) ∧ AW d 259 162 [l0, l1, l2, l3, l4, l5, l6] [] (cI m a (jup (mI m a) (jx i) x)) Q := A_iastore hB_X12_want dX12_want_161
theorem dX12_want_162 : decode cX12_want 162 = .ok (.aload_n 0, 1) := by decide +kernel
theorem tX12_want_162 {d : Nat} {l1 l2 l3 l4 l5 l6 : Option Value} {x : Nat} {m : jmM} {Q : Option Value → jmM → Prop} : AW d 259 162 [some (.ref x), l1, l2, l3, l4, l5, l6] [] m Q ↔ AW d 259 163 [some (.ref x), l1, l2, l3, l4, l5, l6] [.ref x] m Q := A_aload_n hB_X12_want dX12_want_162 rfl
theorem dX12_want_163 : decode cX12_want 163 = .ok (.getfield 73, 3) := by decide +kernel
theorem tX12_want_163 {d : Nat} {l0 l1 l2 l3 l4 l5 l6 : Option Value} {a : Nat} {m : jmM} {Q : Option Value → jmM → Prop} : AW d 259 163 [l0, l1, l2, l3, l4, l5, l6] [.ref a] m Q ↔ (mS m a).1 = 12 ∧ AW d 259 166 [l0, l1, l2, l3, l4, l5, l6] [va_rf (mR m a 33)] m Q := A_getfield (f := fun m a => va_rf (mR m a 33)) hB_X12_want dX12_want_163 hO_X12_want fF_12_73 rfl
theorem dX12_want_166 : decode cX12_want 166 = .ok (.bipush 6, 2) := by decide +kernel
theorem tX12_want_166 {d : Nat} {l0 l1 l2 l3 l4 l5 l6 : Option Value} {v0 : Value} {m : jmM} {Q : Option Value → jmM → Prop} : AW d 259 166 [l0, l1, l2, l3, l4, l5, l6] [v0] m Q ↔ AW d 259 168 [l0, l1, l2, l3, l4, l5, l6] [.int 6, v0] m Q := A_bipush hB_X12_want dX12_want_166 rfl
theorem dX12_want_168 : decode cX12_want 168 = .ok (.aload_n 0, 1) := by decide +kernel
theorem tX12_want_168 {d : Nat} {l1 l2 l3 l4 l5 l6 : Option Value} {v0 v1 : Value} {x : Nat} {m : jmM} {Q : Option Value → jmM → Prop} : AW d 259 168 [some (.ref x), l1, l2, l3, l4, l5, l6] [v0, v1] m Q ↔ AW d 259 169 [some (.ref x), l1, l2, l3, l4, l5, l6] [.ref x, v0, v1] m Q := A_aload_n hB_X12_want dX12_want_168 rfl
theorem dX12_want_169 : decode cX12_want 169 = .ok (.getfield 349, 3) := by decide +kernel
theorem tX12_want_169 {d : Nat} {l0 l1 l2 l3 l4 l5 l6 : Option Value} {v1 v2 : Value} {a : Nat} {m : jmM} {Q : Option Value → jmM → Prop} : AW d 259 169 [l0, l1, l2, l3, l4, l5, l6] [.ref a, v1, v2] m Q ↔ (mS m a).1 = 12 ∧ AW d 259 172 [l0, l1, l2, l3, l4, l5, l6] [.int (mI m a 32), v1, v2] m Q := A_getfield (f := fun m a => .int (mI m a 32)) hB_X12_want dX12_want_169 hO_X12_want fF_12_349 rfl
theorem dX12_want_172 : decode cX12_want 172 = .ok (.imul, 1) := by decide +kernel
theorem tX12_want_172 {d : Nat} {l0 l1 l2 l3 l4 l5 l6 : Option Value} {v2 : Value} {x y : Int32} {m : jmM} {Q : Option Value → jmM → Prop} : AW d 259 172 [l0, l1, l2, l3, l4, l5, l6] [.int y, .int x, v2] m Q ↔ AW d 259 173 [l0, l1, l2, l3, l4, l5, l6] [.int (x * y), v2] m Q := A_imul hB_X12_want dX12_want_172
theorem dX12_want_173 : decode cX12_want 173 = .ok (.iconst 5, 1) := by decide +kernel
theorem tX12_want_173 {d : Nat} {l0 l1 l2 l3 l4 l5 l6 : Option Value} {v0 v1 : Value} {m : jmM} {Q : Option Value → jmM → Prop} : AW d 259 173 [l0, l1, l2, l3, l4, l5, l6] [v0, v1] m Q ↔ AW d 259 174 [l0, l1, l2, l3, l4, l5, l6] [.int 5, v0, v1] m Q := A_iconst hB_X12_want dX12_want_173 (by decide)
theorem dX12_want_174 : decode cX12_want 174 = .ok (.iadd, 1) := by decide +kernel
theorem tX12_want_174 {d : Nat} {l0 l1 l2 l3 l4 l5 l6 : Option Value} {v2 : Value} {x y : Int32} {m : jmM} {Q : Option Value → jmM → Prop} : AW d 259 174 [l0, l1, l2, l3, l4, l5, l6] [.int y, .int x, v2] m Q ↔ AW d 259 175 [l0, l1, l2, l3, l4, l5, l6] [.int (x + y), v2] m Q := A_iadd hB_X12_want dX12_want_174
theorem dX12_want_175 : decode cX12_want 175 = .ok (.iload 6, 2) := by decide +kernel
theorem tX12_want_175 {d : Nat} {l0 l1 l2 l3 l4 l5 : Option Value} {v0 v1 : Value} {x : Int32} {m : jmM} {Q : Option Value → jmM → Prop} : AW d 259 175 [l0, l1, l2, l3, l4, l5, some (.int x)] [v0, v1] m Q ↔ AW d 259 177 [l0, l1, l2, l3, l4, l5, some (.int x)] [.int x, v0, v1] m Q := A_iload hB_X12_want dX12_want_175 rfl
theorem dX12_want_177 : decode cX12_want 177 = .ok (.iastore, 1) := by decide +kernel
theorem tX12_want_177 {d : Nat} {l0 l1 l2 l3 l4 l5 l6 : Option Value} {x i : Int32} {a : Nat} {m : jmM} {Q : Option Value → jmM → Prop} : AW d 259 177 [l0, l1, l2, l3, l4, l5, l6] [.int x, .int i, .ref a] m Q ↔ ((mS m a).1 = 20 ∧ jIx i (mS m a).2) ∧ AW d 259 178 [l0, l1, l2, l3, l4, l5, l6] [] (cI m a (jup (mI m a) (jx i) x)) Q := A_iastore hB_X12_want dX12_want_177
theorem dX12_want_178 : decode cX12_want 178 = .ok (.aload_n 0, 1) := by decide +kernel
theorem tX12_want_178 {d : Nat} {l1 l2 l3 l4 l5 l6 : Option Value} {x : Nat} {m : jmM} {Q : Option Value → jmM → Prop} : AW d 259 178 [some (.ref x), l1, l2, l3, l4, l5, l6] [] m Q ↔ AW d 259 179 [some (.ref x), l1, l2, l3, l4, l5, l6] [.ref x] m Q := A_aload_n hB_X12_want dX12_want_178 rfl
theorem dX12_want_179 : decode cX12_want 179 = .ok (.dup, 1) := by decide +kernel
theorem tX12_want_179 {d : Nat} {l0 l1 l2 l3 l4 l5 l6 : Option Value} {x : Nat} {m : jmM} {Q : Option Value → jmM → Prop} : AW d 259 179 [l0, l1, l2, l3, l4, l5, l6] [.ref x] m Q ↔ AW d 259 180 [l0, l1, l2, l3, l4, l5, l6] [.ref x, .ref x] m Q := A_dup_a hB_X12_want dX12_want_179
theorem dX12_want_180 : decode cX12_want 180 = .ok (.getfield 349, 3) := by decide +kernel
theorem tX12_want_180 {d : Nat} {l0 l1 l2 l3 l4 l5 l6 : Option Value} {v1 : Value} {a : Nat} {m : jmM} {Q : Option Value → jmM → Prop} : AW d 259 180 [l0, l1, l2, l3, l4, l5, l6] [.ref a, v1] m Q ↔ (mS m a).1 = 12 ∧ AW d 259 183 [l0, l1, l2, l3, l4, l5, l6] [.int (mI m a 32), v1] m Q := A_getfield (f := fun m a => .int (mI m a 32)) hB_X12_want dX12_want_180 hO_X12_want fF_12_349 rfl
theorem dX12_want_183 : decode cX12_want 183 = .ok (.iconst 1, 1) := by decide +kernel
theorem tX12_want_183 {d : Nat} {l0 l1 l2 l3 l4 l5 l6 : Option Value} {v0 v1 : Value} {m : jmM} {Q : Option Value → jmM → Prop} : AW d 259 183 [l0, l1, l2, l3, l4, l5, l6] [v0, v1] m Q ↔ AW d 259 184 [l0, l1, l2, l3, l4, l5, l6] [.int 1, v0, v1] m Q := A_iconst hB_X12_want dX12_want_183 (by decide)
theorem dX12_want_184 : decode cX12_want 184 = .ok (.iadd, 1) := by decide +kernel
theorem tX12_want_184 {d : Nat} {l0 l1 l2 l3 l4 l5 l6 : Option Value} {v2 : Value} {x y : Int32} {m : jmM} {Q : Option Value → jmM → Prop} : AW d 259 184 [l0, l1, l2, l3, l4, l5, l6] [.int y, .int x, v2] m Q ↔ AW d 259 185 [l0, l1, l2, l3, l4, l5, l6] [.int (x + y), v2] m Q := A_iadd hB_X12_want dX12_want_184
theorem dX12_want_185 : decode cX12_want 185 = .ok (.putfield 349, 3) := by decide +kernel
theorem tX12_want_185 {d : Nat} {l0 l1 l2 l3 l4 l5 l6 : Option Value} {x : Int32} {a : Nat} {m : jmM} {Q : Option Value → jmM → Prop} : AW d 259 185 [l0, l1, l2, l3, l4, l5, l6] [.int x, .ref a] m Q ↔ (mS m a).1 = 12 ∧ AW d 259 188 [l0, l1, l2, l3, l4, l5, l6] [] (cI m a (jup (mI m a) 32 x)) Q := A_putI hB_X12_want dX12_want_185 hO_X12_want fF_12_349 rfl (fun h => Bool.noConfusion h)
theorem dX12_want_188 : decode cX12_want 188 = .ok (.aload_n 0, 1) := by decide +kernel
theorem tX12_want_188 {d : Nat} {l1 l2 l3 l4 l5 l6 : Option Value} {x : Nat} {m : jmM} {Q : Option Value → jmM → Prop} : AW d 259 188 [some (.ref x), l1, l2, l3, l4, l5, l6] [] m Q ↔ AW d 259 189 [some (.ref x), l1, l2, l3, l4, l5, l6] [.ref x] m Q := A_aload_n hB_X12_want dX12_want_188 rfl
theorem dX12_want_189 : decode cX12_want 189 = .ok (.getfield 349, 3) := by decide +kernel
theorem tX12_want_189 {d : Nat} {l0 l1 l2 l3 l4 l5 l6 : Option Value} {a : Nat} {m : jmM} {Q : Option Value → jmM → Prop} : AW d 259 189 [l0, l1, l2, l3, l4, l5, l6] [.ref a] m Q ↔ (mS m a).1 = 12 ∧ AW d 259 192 [l0, l1, l2, l3, l4, l5, l6] [.int (mI m a 32)] m Q := A_getfield (f := fun m a => .int (mI m a 32)) hB_X12_want dX12_want_189 hO_X12_want fF_12_349 rfl
theorem dX12_want_192 : decode cX12_want 192 = .ok (.iconst 1, 1) := by decide +kernel
theorem tX12_want_192 {d : Nat} {l0 l1 l2 l3 l4 l5 l6 : Option Value} {v0 : Value} {m : jmM} {Q : Option Value → jmM → Prop} : AW d 259 192 [l0, l1, l2, l3, l4, l5, l6] [v0] m Q ↔ AW d 259 193 [l0, l1, l2, l3, l4, l5, l6] [.int 1, v0] m Q := A_iconst hB_X12_want dX12_want_192 (by decide)
theorem dX12_want_193 : decode cX12_want 193 = .ok (.isub, 1) := by decide +kernel
theorem tX12_want_193 {d : Nat} {l0 l1 l2 l3 l4 l5 l6 : Option Value} {x y : Int32} {m : jmM} {Q : Option Value → jmM → Prop} : AW d 259 193 [l0, l1, l2, l3, l4, l5, l6] [.int y, .int x] m Q ↔ AW d 259 194 [l0, l1, l2, l3, l4, l5, l6] [.int (x - y)] m Q := A_isub hB_X12_want dX12_want_193
theorem dX12_want_194 : decode cX12_want 194 = .ok (.ireturn, 1) := by decide +kernel
theorem tX12_want_194 {d : Nat} {l0 l1 l2 l3 l4 l5 l6 : Option Value} {x : Int32} {m : jmM} {Q : Option Value → jmM → Prop} : AW d 259 194 [l0, l1, l2, l3, l4, l5, l6] [.int x] m Q ↔ Q (some (.int x)) m := A_ireturn hB_X12_want dX12_want_194 hR_X12_want
theorem hB_X12_isWanted : jB 260 = cX12_isWanted := rfl
theorem hO_X12_isWanted : jO 260 = 12 := rfl
theorem hR_X12_isWanted : jRt 260 = (some .boolean) := rfl
theorem nX12_isWanted (d : Nat) (x0 : Nat) (x1 : Int32) (x2 : Int32) (m : jmM) (Q : Option Value → jmM → Prop) : CC (d + 1) 260 [.ref x0, .int x1, .int x2] m Q ↔ AW d 260 0 [some (.ref x0), some (.int x1), some (.int x2), none, none] [] m Q := CC_body (Nat.le_of_ble_eq_true rfl)
theorem dX12_isWanted_0 : decode cX12_isWanted 0 = .ok (.aload_n 0, 1) := by decide +kernel
theorem tX12_isWanted_0 {d : Nat} {l1 l2 l3 l4 : Option Value} {x : Nat} {m : jmM} {Q : Option Value → jmM → Prop} : AW d 260 0 [some (.ref x), l1, l2, l3, l4] [] m Q ↔ AW d 260 1 [some (.ref x), l1, l2, l3, l4] [.ref x] m Q := A_aload_n hB_X12_isWanted dX12_isWanted_0 rfl
theorem dX12_isWanted_1 : decode cX12_isWanted 1 = .ok (.aload_n 0, 1) := by decide +kernel
theorem tX12_isWanted_1 {d : Nat} {l1 l2 l3 l4 : Option Value} {v0 : Value} {x : Nat} {m : jmM} {Q : Option Value → jmM → Prop} : AW d 260 1 [some (.ref x), l1, l2, l3, l4] [v0] m Q ↔ AW d 260 2 [some (.ref x), l1, l2, l3, l4] [.ref x, v0] m Q := A_aload_n hB_X12_isWanted dX12_isWanted_1 rfl
theorem dX12_isWanted_2 : decode cX12_isWanted 2 = .ok (.getfield 66, 3) := by decide +kernel
theorem tX12_isWanted_2 {d : Nat} {l0 l1 l2 l3 l4 : Option Value} {v1 : Value} {a : Nat} {m : jmM} {Q : Option Value → jmM → Prop} : AW d 260 2 [l0, l1, l2, l3, l4] [.ref a, v1] m Q ↔ (mS m a).1 = 12 ∧ AW d 260 5 [l0, l1, l2, l3, l4] [va_rf (mR m a 30), v1] m Q := A_getfield (f := fun m a => va_rf (mR m a 30)) hB_X12_isWanted dX12_isWanted_2 hO_X12_isWanted fF_12_66 rfl
theorem dX12_isWanted_5 : decode cX12_isWanted 5 = .ok (.bipush 6, 2) := by decide +kernel
theorem tX12_isWanted_5 {d : Nat} {l0 l1 l2 l3 l4 : Option Value} {v0 v1 : Value} {m : jmM} {Q : Option Value → jmM → Prop} : AW d 260 5 [l0, l1, l2, l3, l4] [v0, v1] m Q ↔ AW d 260 7 [l0, l1, l2, l3, l4] [.int 6, v0, v1] m Q := A_bipush hB_X12_isWanted dX12_isWanted_5 rfl
theorem dX12_isWanted_7 : decode cX12_isWanted 7 = .ok (.iload_n 1, 1) := by decide +kernel
theorem tX12_isWanted_7 {d : Nat} {l0 l2 l3 l4 : Option Value} {v0 v1 v2 : Value} {x : Int32} {m : jmM} {Q : Option Value → jmM → Prop} : AW d 260 7 [l0, some (.int x), l2, l3, l4] [v0, v1, v2] m Q ↔ AW d 260 8 [l0, some (.int x), l2, l3, l4] [.int x, v0, v1, v2] m Q := A_iload_n hB_X12_isWanted dX12_isWanted_7 rfl
theorem dX12_isWanted_8 : decode cX12_isWanted 8 = .ok (.imul, 1) := by decide +kernel
theorem tX12_isWanted_8 {d : Nat} {l0 l1 l2 l3 l4 : Option Value} {v2 v3 : Value} {x y : Int32} {m : jmM} {Q : Option Value → jmM → Prop} : AW d 260 8 [l0, l1, l2, l3, l4] [.int y, .int x, v2, v3] m Q ↔ AW d 260 9 [l0, l1, l2, l3, l4] [.int (x * y), v2, v3] m Q := A_imul hB_X12_isWanted dX12_isWanted_8
theorem dX12_isWanted_9 : decode cX12_isWanted 9 = .ok (.aload_n 0, 1) := by decide +kernel
theorem tX12_isWanted_9 {d : Nat} {l1 l2 l3 l4 : Option Value} {v0 v1 v2 : Value} {x : Nat} {m : jmM} {Q : Option Value → jmM → Prop} : AW d 260 9 [some (.ref x), l1, l2, l3, l4] [v0, v1, v2] m Q ↔ AW d 260 10 [some (.ref x), l1, l2, l3, l4] [.ref x, v0, v1, v2] m Q := A_aload_n hB_X12_isWanted dX12_isWanted_9 rfl
theorem dX12_isWanted_10 : decode cX12_isWanted 10 = .ok (.getfield 73, 3) := by decide +kernel
theorem tX12_isWanted_10 {d : Nat} {l0 l1 l2 l3 l4 : Option Value} {v1 v2 v3 : Value} {a : Nat} {m : jmM} {Q : Option Value → jmM → Prop} : AW d 260 10 [l0, l1, l2, l3, l4] [.ref a, v1, v2, v3] m Q ↔ (mS m a).1 = 12 ∧ AW d 260 13 [l0, l1, l2, l3, l4] [va_rf (mR m a 33), v1, v2, v3] m Q := A_getfield (f := fun m a => va_rf (mR m a 33)) hB_X12_isWanted dX12_isWanted_10 hO_X12_isWanted fF_12_73 rfl
theorem dX12_isWanted_13 : decode cX12_isWanted 13 = .ok (.bipush 6, 2) := by decide +kernel
theorem tX12_isWanted_13 {d : Nat} {l0 l1 l2 l3 l4 : Option Value} {v0 v1 v2 v3 : Value} {m : jmM} {Q : Option Value → jmM → Prop} : AW d 260 13 [l0, l1, l2, l3, l4] [v0, v1, v2, v3] m Q ↔ AW d 260 15 [l0, l1, l2, l3, l4] [.int 6, v0, v1, v2, v3] m Q := A_bipush hB_X12_isWanted dX12_isWanted_13 rfl
theorem dX12_isWanted_15 : decode cX12_isWanted 15 = .ok (.iload_n 2, 1) := by decide +kernel
theorem tX12_isWanted_15 {d : Nat} {l0 l1 l3 l4 : Option Value} {v0 v1 v2 v3 v4 : Value} {x : Int32} {m : jmM} {Q : Option Value → jmM → Prop} : AW d 260 15 [l0, l1, some (.int x), l3, l4] [v0, v1, v2, v3, v4] m Q ↔ AW d 260 16 [l0, l1, some (.int x), l3, l4] [.int x, v0, v1, v2, v3, v4] m Q := A_iload_n hB_X12_isWanted dX12_isWanted_15 rfl
theorem dX12_isWanted_16 : decode cX12_isWanted 16 = .ok (.imul, 1) := by decide +kernel
theorem tX12_isWanted_16 {d : Nat} {l0 l1 l2 l3 l4 : Option Value} {v2 v3 v4 v5 : Value} {x y : Int32} {m : jmM} {Q : Option Value → jmM → Prop} : AW d 260 16 [l0, l1, l2, l3, l4] [.int y, .int x, v2, v3, v4, v5] m Q ↔ AW d 260 17 [l0, l1, l2, l3, l4] [.int (x * y), v2, v3, v4, v5] m Q := A_imul hB_X12_isWanted dX12_isWanted_16
theorem dX12_isWanted_17 : decode cX12_isWanted 17 = .ok (.iaload, 1) := by decide +kernel
theorem tX12_isWanted_17 {d : Nat} {l0 l1 l2 l3 l4 : Option Value} {v2 v3 v4 : Value} {i : Int32} {a : Nat} {m : jmM} {Q : Option Value → jmM → Prop} : AW d 260 17 [l0, l1, l2, l3, l4] [.int i, .ref a, v2, v3, v4] m Q ↔ (((mS m a).1 = 20 ∨ a = jScr) ∧ jIx i (mS m a).2) ∧ AW d 260 18 [l0, l1, l2, l3, l4] [.int (mI m a (jx i)), v2, v3, v4] m Q := A_iaload hB_X12_isWanted dX12_isWanted_17
theorem dX12_isWanted_18 : decode cX12_isWanted 18 = .ok (.iadd, 1) := by decide +kernel
theorem tX12_isWanted_18 {d : Nat} {l0 l1 l2 l3 l4 : Option Value} {v2 v3 : Value} {x y : Int32} {m : jmM} {Q : Option Value → jmM → Prop} : AW d 260 18 [l0, l1, l2, l3, l4] [.int y, .int x, v2, v3] m Q ↔ AW d 260 19 [l0, l1, l2, l3, l4] [.int (x + y), v2, v3] m Q := A_iadd hB_X12_isWanted dX12_isWanted_18
theorem dX12_isWanted_19 : decode cX12_isWanted 19 = .ok (.laload, 1) := by decide +kernel
theorem tX12_isWanted_19 {d : Nat} {l0 l1 l2 l3 l4 : Option Value} {v2 : Value} {i : Int32} {a : Nat} {m : jmM} {Q : Option Value → jmM → Prop} : AW d 260 19 [l0, l1, l2, l3, l4] [.int i, .ref a, v2] m Q ↔ ((mS m a).1 = 21 ∧ jIx i (mS m a).2) ∧ AW d 260 20 [l0, l1, l2, l3, l4] [.long (mL m a (jx i)), v2] m Q := A_laload hB_X12_isWanted dX12_isWanted_19
theorem dX12_isWanted_20 : decode cX12_isWanted 20 = .ok (.iload_n 1, 1) := by decide +kernel
theorem tX12_isWanted_20 {d : Nat} {l0 l2 l3 l4 : Option Value} {v0 v1 : Value} {x : Int32} {m : jmM} {Q : Option Value → jmM → Prop} : AW d 260 20 [l0, some (.int x), l2, l3, l4] [v0, v1] m Q ↔ AW d 260 21 [l0, some (.int x), l2, l3, l4] [.int x, v0, v1] m Q := A_iload_n hB_X12_isWanted dX12_isWanted_20 rfl
theorem dX12_isWanted_21 : decode cX12_isWanted 21 = .ok (.invokevirtual 388, 3) := by decide +kernel
theorem tX12_isWanted_21 {d : Nat} {l0 l1 l2 l3 l4 : Option Value} {y0 y1 : Value} {a : Nat} {m : jmM} {Q : Option Value → jmM → Prop} : AW d 260 21 [l0, l1, l2, l3, l4] [y0, y1, .ref a] m Q ↔ (mS m a).1 = 12 ∧ CC d 257 [.ref a, y1, y0] m (jK d 260 24 [l0, l1, l2, l3, l4] [] Q) := A_callV hB_X12_isWanted dX12_isWanted_21 hO_X12_isWanted fS_12_388 ⟨Nat.le_of_ble_eq_true rfl, Nat.le_of_ble_eq_true rfl⟩ rfl rfl rfl
theorem dX12_isWanted_24 : decode cX12_isWanted 24 = .ok (.lstore_n 3, 1) := by decide +kernel
theorem tX12_isWanted_24 {d : Nat} {l0 l1 l2 l3 l4 : Option Value} {x : Int64} {m : jmM} {Q : Option Value → jmM → Prop} : AW d 260 24 [l0, l1, l2, l3, l4] [.long x] m Q ↔ AW d 260 25 [l0, l1, jc1 l2, some (.long x), none] [] m Q := A_lstore_n hB_X12_isWanted dX12_isWanted_24 (Nat.le_of_ble_eq_true rfl) rfl
theorem dX12_isWanted_25 : decode cX12_isWanted 25 = .ok (.lload_n 3, 1) := by decide +kernel
theorem tX12_isWanted_25 {d : Nat} {l0 l1 l2 l4 : Option Value} {x : Int64} {m : jmM} {Q : Option Value → jmM → Prop} : AW d 260 25 [l0, l1, l2, some (.long x), l4] [] m Q ↔ AW d 260 26 [l0, l1, l2, some (.long x), l4] [.long x] m Q := A_lload_n hB_X12_isWanted dX12_isWanted_25 rfl
theorem dX12_isWanted_26 : decode cX12_isWanted 26 = .ok (.aload_n 0, 1) := by decide +kernel
theorem tX12_isWanted_26 {d : Nat} {l1 l2 l3 l4 : Option Value} {v0 : Value} {x : Nat} {m : jmM} {Q : Option Value → jmM → Prop} : AW d 260 26 [some (.ref x), l1, l2, l3, l4] [v0] m Q ↔ AW d 260 27 [some (.ref x), l1, l2, l3, l4] [.ref x, v0] m Q := A_aload_n hB_X12_isWanted dX12_isWanted_26 rfl
theorem dX12_isWanted_27 : decode cX12_isWanted 27 = .ok (.getfield 73, 3) := by decide +kernel
theorem tX12_isWanted_27 {d : Nat} {l0 l1 l2 l3 l4 : Option Value} {v1 : Value} {a : Nat} {m : jmM} {Q : Option Value → jmM → Prop} : AW d 260 27 [l0, l1, l2, l3, l4] [.ref a, v1] m Q ↔ (mS m a).1 = 12 ∧ AW d 260 30 [l0, l1, l2, l3, l4] [va_rf (mR m a 33), v1] m Q := A_getfield (f := fun m a => va_rf (mR m a 33)) hB_X12_isWanted dX12_isWanted_27 hO_X12_isWanted fF_12_73 rfl
theorem dX12_isWanted_30 : decode cX12_isWanted 30 = .ok (.bipush 6, 2) := by decide +kernel
theorem tX12_isWanted_30 {d : Nat} {l0 l1 l2 l3 l4 : Option Value} {v0 v1 : Value} {m : jmM} {Q : Option Value → jmM → Prop} : AW d 260 30 [l0, l1, l2, l3, l4] [v0, v1] m Q ↔ AW d 260 32 [l0, l1, l2, l3, l4] [.int 6, v0, v1] m Q := A_bipush hB_X12_isWanted dX12_isWanted_30 rfl
theorem dX12_isWanted_32 : decode cX12_isWanted 32 = .ok (.iload_n 2, 1) := by decide +kernel
theorem tX12_isWanted_32 {d : Nat} {l0 l1 l3 l4 : Option Value} {v0 v1 v2 : Value} {x : Int32} {m : jmM} {Q : Option Value → jmM → Prop} : AW d 260 32 [l0, l1, some (.int x), l3, l4] [v0, v1, v2] m Q ↔ AW d 260 33 [l0, l1, some (.int x), l3, l4] [.int x, v0, v1, v2] m Q := A_iload_n hB_X12_isWanted dX12_isWanted_32 rfl
theorem dX12_isWanted_33 : decode cX12_isWanted 33 = .ok (.imul, 1) := by decide +kernel
theorem tX12_isWanted_33 {d : Nat} {l0 l1 l2 l3 l4 : Option Value} {v2 v3 : Value} {x y : Int32} {m : jmM} {Q : Option Value → jmM → Prop} : AW d 260 33 [l0, l1, l2, l3, l4] [.int y, .int x, v2, v3] m Q ↔ AW d 260 34 [l0, l1, l2, l3, l4] [.int (x * y), v2, v3] m Q := A_imul hB_X12_isWanted dX12_isWanted_33
theorem dX12_isWanted_34 : decode cX12_isWanted 34 = .ok (.iconst 1, 1) := by decide +kernel
theorem tX12_isWanted_34 {d : Nat} {l0 l1 l2 l3 l4 : Option Value} {v0 v1 v2 : Value} {m : jmM} {Q : Option Value → jmM → Prop} : AW d 260 34 [l0, l1, l2, l3, l4] [v0, v1, v2] m Q ↔ AW d 260 35 [l0, l1, l2, l3, l4] [.int 1, v0, v1, v2] m Q := A_iconst hB_X12_isWanted dX12_isWanted_34 (by decide)
theorem dX12_isWanted_35 : decode cX12_isWanted 35 = .ok (.iadd, 1) := by decide +kernel
theorem tX12_isWanted_35 {d : Nat} {l0 l1 l2 l3 l4 : Option Value} {v2 v3 : Value} {x y : Int32} {m : jmM} {Q : Option Value → jmM → Prop} : AW d 260 35 [l0, l1, l2, l3, l4] [.int y, .int x, v2, v3] m Q ↔ AW d 260 36 [l0, l1, l2, l3, l4] [.int (x + y), v2, v3] m Q := A_iadd hB_X12_isWanted dX12_isWanted_35
theorem dX12_isWanted_36 : decode cX12_isWanted 36 = .ok (.iaload, 1) := by decide +kernel
theorem tX12_isWanted_36 {d : Nat} {l0 l1 l2 l3 l4 : Option Value} {v2 : Value} {i : Int32} {a : Nat} {m : jmM} {Q : Option Value → jmM → Prop} : AW d 260 36 [l0, l1, l2, l3, l4] [.int i, .ref a, v2] m Q ↔ (((mS m a).1 = 20 ∨ a = jScr) ∧ jIx i (mS m a).2) ∧ AW d 260 37 [l0, l1, l2, l3, l4] [.int (mI m a (jx i)), v2] m Q := A_iaload hB_X12_isWanted dX12_isWanted_36
theorem dX12_isWanted_37 : decode cX12_isWanted 37 = .ok (.i2l, 1) := by decide +kernel
theorem tX12_isWanted_37 {d : Nat} {l0 l1 l2 l3 l4 : Option Value} {v1 : Value} {x : Int32} {m : jmM} {Q : Option Value → jmM → Prop} : AW d 260 37 [l0, l1, l2, l3, l4] [.int x, v1] m Q ↔ AW d 260 38 [l0, l1, l2, l3, l4] [.long x.toInt64, v1] m Q := A_i2l hB_X12_isWanted dX12_isWanted_37
theorem dX12_isWanted_38 : decode cX12_isWanted 38 = .ok (.aload_n 0, 1) := by decide +kernel
theorem tX12_isWanted_38 {d : Nat} {l1 l2 l3 l4 : Option Value} {v0 v1 : Value} {x : Nat} {m : jmM} {Q : Option Value → jmM → Prop} : AW d 260 38 [some (.ref x), l1, l2, l3, l4] [v0, v1] m Q ↔ AW d 260 39 [some (.ref x), l1, l2, l3, l4] [.ref x, v0, v1] m Q := A_aload_n hB_X12_isWanted dX12_isWanted_38 rfl
theorem dX12_isWanted_39 : decode cX12_isWanted 39 = .ok (.getfield 73, 3) := by decide +kernel
theorem tX12_isWanted_39 {d : Nat} {l0 l1 l2 l3 l4 : Option Value} {v1 v2 : Value} {a : Nat} {m : jmM} {Q : Option Value → jmM → Prop} : AW d 260 39 [l0, l1, l2, l3, l4] [.ref a, v1, v2] m Q ↔ (mS m a).1 = 12 ∧ AW d 260 42 [l0, l1, l2, l3, l4] [va_rf (mR m a 33), v1, v2] m Q := A_getfield (f := fun m a => va_rf (mR m a 33)) hB_X12_isWanted dX12_isWanted_39 hO_X12_isWanted fF_12_73 rfl
theorem dX12_isWanted_42 : decode cX12_isWanted 42 = .ok (.bipush 6, 2) := by decide +kernel
theorem tX12_isWanted_42 {d : Nat} {l0 l1 l2 l3 l4 : Option Value} {v0 v1 v2 : Value} {m : jmM} {Q : Option Value → jmM → Prop} : AW d 260 42 [l0, l1, l2, l3, l4] [v0, v1, v2] m Q ↔ AW d 260 44 [l0, l1, l2, l3, l4] [.int 6, v0, v1, v2] m Q := A_bipush hB_X12_isWanted dX12_isWanted_42 rfl
theorem dX12_isWanted_44 : decode cX12_isWanted 44 = .ok (.iload_n 2, 1) := by decide +kernel
theorem tX12_isWanted_44 {d : Nat} {l0 l1 l3 l4 : Option Value} {v0 v1 v2 v3 : Value} {x : Int32} {m : jmM} {Q : Option Value → jmM → Prop} : AW d 260 44 [l0, l1, some (.int x), l3, l4] [v0, v1, v2, v3] m Q ↔ AW d 260 45 [l0, l1, some (.int x), l3, l4] [.int x, v0, v1, v2, v3] m Q := A_iload_n hB_X12_isWanted dX12_isWanted_44 rfl
theorem dX12_isWanted_45 : decode cX12_isWanted 45 = .ok (.imul, 1) := by decide +kernel
theorem tX12_isWanted_45 {d : Nat} {l0 l1 l2 l3 l4 : Option Value} {v2 v3 v4 : Value} {x y : Int32} {m : jmM} {Q : Option Value → jmM → Prop} : AW d 260 45 [l0, l1, l2, l3, l4] [.int y, .int x, v2, v3, v4] m Q ↔ AW d 260 46 [l0, l1, l2, l3, l4] [.int (x * y), v2, v3, v4] m Q := A_imul hB_X12_isWanted dX12_isWanted_45
theorem dX12_isWanted_46 : decode cX12_isWanted 46 = .ok (.iconst 2, 1) := by decide +kernel
theorem tX12_isWanted_46 {d : Nat} {l0 l1 l2 l3 l4 : Option Value} {v0 v1 v2 v3 : Value} {m : jmM} {Q : Option Value → jmM → Prop} : AW d 260 46 [l0, l1, l2, l3, l4] [v0, v1, v2, v3] m Q ↔ AW d 260 47 [l0, l1, l2, l3, l4] [.int 2, v0, v1, v2, v3] m Q := A_iconst hB_X12_isWanted dX12_isWanted_46 (by decide)
theorem dX12_isWanted_47 : decode cX12_isWanted 47 = .ok (.iadd, 1) := by decide +kernel
theorem tX12_isWanted_47 {d : Nat} {l0 l1 l2 l3 l4 : Option Value} {v2 v3 v4 : Value} {x y : Int32} {m : jmM} {Q : Option Value → jmM → Prop} : AW d 260 47 [l0, l1, l2, l3, l4] [.int y, .int x, v2, v3, v4] m Q ↔ AW d 260 48 [l0, l1, l2, l3, l4] [.int (x + y), v2, v3, v4] m Q := A_iadd hB_X12_isWanted dX12_isWanted_47
theorem dX12_isWanted_48 : decode cX12_isWanted 48 = .ok (.iaload, 1) := by decide +kernel
theorem tX12_isWanted_48 {d : Nat} {l0 l1 l2 l3 l4 : Option Value} {v2 v3 : Value} {i : Int32} {a : Nat} {m : jmM} {Q : Option Value → jmM → Prop} : AW d 260 48 [l0, l1, l2, l3, l4] [.int i, .ref a, v2, v3] m Q ↔ (((mS m a).1 = 20 ∨ a = jScr) ∧ jIx i (mS m a).2) ∧ AW d 260 49 [l0, l1, l2, l3, l4] [.int (mI m a (jx i)), v2, v3] m Q := A_iaload hB_X12_isWanted dX12_isWanted_48
theorem dX12_isWanted_49 : decode cX12_isWanted 49 = .ok (.i2l, 1) := by decide +kernel
theorem tX12_isWanted_49 {d : Nat} {l0 l1 l2 l3 l4 : Option Value} {v1 v2 : Value} {x : Int32} {m : jmM} {Q : Option Value → jmM → Prop} : AW d 260 49 [l0, l1, l2, l3, l4] [.int x, v1, v2] m Q ↔ AW d 260 50 [l0, l1, l2, l3, l4] [.long x.toInt64, v1, v2] m Q := A_i2l hB_X12_isWanted dX12_isWanted_49
theorem dX12_isWanted_50 : decode cX12_isWanted 50 = .ok (.invokestatic 281, 3) := by decide +kernel
theorem tX12_isWanted_50 {d : Nat} {l0 l1 l2 l3 l4 : Option Value} {y0 y1 y2 : Value} {m : jmM} {Q : Option Value → jmM → Prop} : AW d 260 50 [l0, l1, l2, l3, l4] [y0, y1, y2] m Q ↔ CC d 189 [y2, y1, y0] m (jK d 260 53 [l0, l1, l2, l3, l4] [] Q) := A_callS0 hB_X12_isWanted dX12_isWanted_50 hO_X12_isWanted fS_12_281 ⟨Nat.le_of_ble_eq_true rfl, Nat.le_of_ble_eq_true rfl⟩ rfl rfl
theorem dX12_isWanted_53 : decode cX12_isWanted 53 = .ok (.ifCond .eq 27, 3) := by decide +kernel
theorem tX12_isWanted_53 {d : Nat} {l0 l1 l2 l3 l4 : Option Value} {x : Int32} {m : jmM} {Q : Option Value → jmM → Prop} : AW d 260 53 [l0, l1, l2, l3, l4] [.int x] m Q ↔ if x = 0 then AW d 260 80 [l0, l1, l2, l3, l4] [] m Q else AW d 260 56 [l0, l1, l2, l3, l4] [] m Q := A_if_eq hB_X12_isWanted dX12_isWanted_53 (by decide)
theorem dX12_isWanted_56 : decode cX12_isWanted 56 = .ok (.aload_n 0, 1) := by decide +kernel
theorem tX12_isWanted_56 {d : Nat} {l1 l2 l3 l4 : Option Value} {x : Nat} {m : jmM} {Q : Option Value → jmM → Prop} : AW d 260 56 [some (.ref x), l1, l2, l3, l4] [] m Q ↔ AW d 260 57 [some (.ref x), l1, l2, l3, l4] [.ref x] m Q := A_aload_n hB_X12_isWanted dX12_isWanted_56 rfl
theorem dX12_isWanted_57 : decode cX12_isWanted 57 = .ok (.iload_n 1, 1) := by decide +kernel
theorem tX12_isWanted_57 {d : Nat} {l0 l2 l3 l4 : Option Value} {v0 : Value} {x : Int32} {m : jmM} {Q : Option Value → jmM → Prop} : AW d 260 57 [l0, some (.int x), l2, l3, l4] [v0] m Q ↔ AW d 260 58 [l0, some (.int x), l2, l3, l4] [.int x, v0] m Q := A_iload_n hB_X12_isWanted dX12_isWanted_57 rfl
theorem dX12_isWanted_58 : decode cX12_isWanted 58 = .ok (.iconst 0, 1) := by decide +kernel
theorem tX12_isWanted_58 {d : Nat} {l0 l1 l2 l3 l4 : Option Value} {v0 v1 : Value} {m : jmM} {Q : Option Value → jmM → Prop} : AW d 260 58 [l0, l1, l2, l3, l4] [v0, v1] m Q ↔ AW d 260 59 [l0, l1, l2, l3, l4] [.int 0, v0, v1] m Q := A_iconst hB_X12_isWanted dX12_isWanted_58 (by decide)
theorem dX12_isWanted_59 : decode cX12_isWanted 59 = .ok (.invokevirtual 297, 3) := by decide +kernel
theorem tX12_isWanted_59 {d : Nat} {l0 l1 l2 l3 l4 : Option Value} {y0 y1 : Value} {a : Nat} {m : jmM} {Q : Option Value → jmM → Prop} : AW d 260 59 [l0, l1, l2, l3, l4] [y0, y1, .ref a] m Q ↔ (mS m a).1 = 12 ∧ CC d 229 [.ref a, y1, y0] m (jK d 260 62 [l0, l1, l2, l3, l4] [] Q) := A_callV hB_X12_isWanted dX12_isWanted_59 hO_X12_isWanted fS_12_297 ⟨Nat.le_of_ble_eq_true rfl, Nat.le_of_ble_eq_true rfl⟩ rfl rfl rfl
theorem dX12_isWanted_62 : decode cX12_isWanted 62 = .ok (.aload_n 0, 1) := by decide +kernel
theorem tX12_isWanted_62 {d : Nat} {l1 l2 l3 l4 : Option Value} {v0 : Value} {x : Nat} {m : jmM} {Q : Option Value → jmM → Prop} : AW d 260 62 [some (.ref x), l1, l2, l3, l4] [v0] m Q ↔ AW d 260 63 [some (.ref x), l1, l2, l3, l4] [.ref x, v0] m Q := A_aload_n hB_X12_isWanted dX12_isWanted_62 rfl
theorem dX12_isWanted_63 : decode cX12_isWanted 63 = .ok (.getfield 73, 3) := by decide +kernel
theorem tX12_isWanted_63 {d : Nat} {l0 l1 l2 l3 l4 : Option Value} {v1 : Value} {a : Nat} {m : jmM} {Q : Option Value → jmM → Prop} : AW d 260 63 [l0, l1, l2, l3, l4] [.ref a, v1] m Q ↔ (mS m a).1 = 12 ∧ AW d 260 66 [l0, l1, l2, l3, l4] [va_rf (mR m a 33), v1] m Q := A_getfield (f := fun m a => va_rf (mR m a 33)) hB_X12_isWanted dX12_isWanted_63 hO_X12_isWanted fF_12_73 rfl
theorem dX12_isWanted_66 : decode cX12_isWanted 66 = .ok (.bipush 6, 2) := by decide +kernel
theorem tX12_isWanted_66 {d : Nat} {l0 l1 l2 l3 l4 : Option Value} {v0 v1 : Value} {m : jmM} {Q : Option Value → jmM → Prop} : AW d 260 66 [l0, l1, l2, l3, l4] [v0, v1] m Q ↔ AW d 260 68 [l0, l1, l2, l3, l4] [.int 6, v0, v1] m Q := A_bipush hB_X12_isWanted dX12_isWanted_66 rfl
theorem dX12_isWanted_68 : decode cX12_isWanted 68 = .ok (.iload_n 2, 1) := by decide +kernel
theorem tX12_isWanted_68 {d : Nat} {l0 l1 l3 l4 : Option Value} {v0 v1 v2 : Value} {x : Int32} {m : jmM} {Q : Option Value → jmM → Prop} : AW d 260 68 [l0, l1, some (.int x), l3, l4] [v0, v1, v2] m Q ↔ AW d 260 69 [l0, l1, some (.int x), l3, l4] [.int x, v0, v1, v2] m Q := A_iload_n hB_X12_isWanted dX12_isWanted_68 rfl
theorem dX12_isWanted_69 : decode cX12_isWanted 69 = .ok (.imul, 1) := by decide +kernel
theorem tX12_isWanted_69 {d : Nat} {l0 l1 l2 l3 l4 : Option Value} {v2 v3 : Value} {x y : Int32} {m : jmM} {Q : Option Value → jmM → Prop} : AW d 260 69 [l0, l1, l2, l3, l4] [.int y, .int x, v2, v3] m Q ↔ AW d 260 70 [l0, l1, l2, l3, l4] [.int (x * y), v2, v3] m Q := A_imul hB_X12_isWanted dX12_isWanted_69
theorem dX12_isWanted_70 : decode cX12_isWanted 70 = .ok (.iconst 3, 1) := by decide +kernel
theorem tX12_isWanted_70 {d : Nat} {l0 l1 l2 l3 l4 : Option Value} {v0 v1 v2 : Value} {m : jmM} {Q : Option Value → jmM → Prop} : AW d 260 70 [l0, l1, l2, l3, l4] [v0, v1, v2] m Q ↔ AW d 260 71 [l0, l1, l2, l3, l4] [.int 3, v0, v1, v2] m Q := A_iconst hB_X12_isWanted dX12_isWanted_70 (by decide)
theorem dX12_isWanted_71 : decode cX12_isWanted 71 = .ok (.iadd, 1) := by decide +kernel
theorem tX12_isWanted_71 {d : Nat} {l0 l1 l2 l3 l4 : Option Value} {v2 v3 : Value} {x y : Int32} {m : jmM} {Q : Option Value → jmM → Prop} : AW d 260 71 [l0, l1, l2, l3, l4] [.int y, .int x, v2, v3] m Q ↔ AW d 260 72 [l0, l1, l2, l3, l4] [.int (x + y), v2, v3] m Q := A_iadd hB_X12_isWanted dX12_isWanted_71
theorem dX12_isWanted_72 : decode cX12_isWanted 72 = .ok (.iaload, 1) := by decide +kernel
theorem tX12_isWanted_72 {d : Nat} {l0 l1 l2 l3 l4 : Option Value} {v2 : Value} {i : Int32} {a : Nat} {m : jmM} {Q : Option Value → jmM → Prop} : AW d 260 72 [l0, l1, l2, l3, l4] [.int i, .ref a, v2] m Q ↔ (((mS m a).1 = 20 ∨ a = jScr) ∧ jIx i (mS m a).2) ∧ AW d 260 73 [l0, l1, l2, l3, l4] [.int (mI m a (jx i)), v2] m Q := A_iaload hB_X12_isWanted dX12_isWanted_72
theorem dX12_isWanted_73 : decode cX12_isWanted 73 = .ok (.if_icmp .lt 7, 3) := by decide +kernel
theorem tX12_isWanted_73 {d : Nat} {l0 l1 l2 l3 l4 : Option Value} {x y : Int32} {m : jmM} {Q : Option Value → jmM → Prop} : AW d 260 73 [l0, l1, l2, l3, l4] [.int y, .int x] m Q ↔ if x < y then AW d 260 80 [l0, l1, l2, l3, l4] [] m Q else AW d 260 76 [l0, l1, l2, l3, l4] [] m Q := A_icmp_lt hB_X12_isWanted dX12_isWanted_73 (by decide)
theorem dX12_isWanted_76 : decode cX12_isWanted 76 = .ok (.iconst 1, 1) := by decide +kernel
theorem tX12_isWanted_76 {d : Nat} {l0 l1 l2 l3 l4 : Option Value} {m : jmM} {Q : Option Value → jmM → Prop} : AW d 260 76 [l0, l1, l2, l3, l4] [] m Q ↔ AW d 260 77 [l0, l1, l2, l3, l4] [.int 1] m Q := A_iconst hB_X12_isWanted dX12_isWanted_76 (by decide)
theorem dX12_isWanted_77 : decode cX12_isWanted 77 = .ok (.goto 4, 3) := by decide +kernel
theorem tX12_isWanted_77 {d : Nat} {l0 l1 l2 l3 l4 : Option Value} {v0 : Value} {m : jmM} {Q : Option Value → jmM → Prop} : AW d 260 77 [l0, l1, l2, l3, l4] [v0] m Q ↔ AW d 260 81 [l0, l1, l2, l3, l4] [v0] m Q := A_goto hB_X12_isWanted dX12_isWanted_77 (by decide)
theorem dX12_isWanted_80 : decode cX12_isWanted 80 = .ok (.iconst 0, 1) := by decide +kernel
theorem tX12_isWanted_80 {d : Nat} {l0 l1 l2 l3 l4 : Option Value} {m : jmM} {Q : Option Value → jmM → Prop} : AW d 260 80 [l0, l1, l2, l3, l4] [] m Q ↔ AW d 260 81 [l0, l1, l2, l3, l4] [.int 0] m Q := A_iconst hB_X12_isWanted dX12_isWanted_80 (by decide)
theorem dX12_isWanted_81 : decode cX12_isWanted 81 = .ok (.ireturn, 1) := by decide +kernel
theorem tX12_isWanted_81 {d : Nat} {l0 l1 l2 l3 l4 : Option Value} {x : Int32} {m : jmM} {Q : Option Value → jmM → Prop} : AW d 260 81 [l0, l1, l2, l3, l4] [.int x] m Q ↔ jBool x ∧ Q (some (.int x)) m := A_zreturn hB_X12_isWanted dX12_isWanted_81 hR_X12_isWanted
