/-! steps of PulledCrystal, by program -/
theorem hB_X11_stripes : jB 171 = cX11_stripes := rfl
theorem hO_X11_stripes : jO 171 = 11 := rfl
theorem hR_X11_stripes : jRt 171 = (some .int) := rfl
theorem nX11_stripes (d : Nat) (x0 : Nat) (x1 : Int32) (x2 : Int32) (x3 : Int32) (x4 : Int32) (m : jmM) (Q : Option Value → jmM → Prop) : CC (d + 1) 171 [.ref x0, .int x1, .int x2, .int x3, .int x4] m Q ↔ AW d 171 0 [some (.ref x0), some (.int x1), some (.int x2), some (.int x3), some (.int x4), none, none] [] m Q := CC_body (Nat.le_of_ble_eq_true rfl)
theorem dX11_stripes_0 : decode cX11_stripes 0 = .ok (.iload_n 1, 1) := by decide +kernel
theorem tX11_stripes_0 {d : Nat} {l0 l2 l3 l4 l5 l6 : Option Value} {x : Int32} {m : jmM} {Q : Option Value → jmM → Prop} : AW d 171 0 [l0, some (.int x), l2, l3, l4, l5, l6] [] m Q ↔ AW d 171 1 [l0, some (.int x), l2, l3, l4, l5, l6] [.int x] m Q := A_iload_n hB_X11_stripes dX11_stripes_0 rfl
theorem dX11_stripes_1 : decode cX11_stripes 1 = .ok (.invokestatic 123, 3) := by decide +kernel
theorem tX11_stripes_1 {d : Nat} {l0 l1 l2 l3 l4 l5 l6 : Option Value} {y0 : Value} {m : jmM} {Q : Option Value → jmM → Prop} : AW d 171 1 [l0, l1, l2, l3, l4, l5, l6] [y0] m Q ↔ CC d 182 [y0] m (jK d 171 4 [l0, l1, l2, l3, l4, l5, l6] [] Q) := A_callS0 hB_X11_stripes dX11_stripes_1 hO_X11_stripes fS_11_123 ⟨Nat.le_of_ble_eq_true rfl, Nat.le_of_ble_eq_true rfl⟩ rfl rfl
theorem dX11_stripes_4 : decode cX11_stripes 4 = .ok (.ifCond .eq 42, 3) := by decide +kernel
theorem tX11_stripes_4 {d : Nat} {l0 l1 l2 l3 l4 l5 l6 : Option Value} {x : Int32} {m : jmM} {Q : Option Value → jmM → Prop} : AW d 171 4 [l0, l1, l2, l3, l4, l5, l6] [.int x] m Q ↔ if x = 0 then AW d 171 46 [l0, l1, l2, l3, l4, l5, l6] [] m Q else AW d 171 7 [l0, l1, l2, l3, l4, l5, l6] [] m Q := A_if_eq hB_X11_stripes dX11_stripes_4 (by decide)
theorem dX11_stripes_7 : decode cX11_stripes 7 = .ok (.aload_n 0, 1) := by decide +kernel
theorem tX11_stripes_7 {d : Nat} {l1 l2 l3 l4 l5 l6 : Option Value} {x : Nat} {m : jmM} {Q : Option Value → jmM → Prop} : AW d 171 7 [some (.ref x), l1, l2, l3, l4, l5, l6] [] m Q ↔ AW d 171 8 [some (.ref x), l1, l2, l3, l4, l5, l6] [.ref x] m Q := A_aload_n hB_X11_stripes dX11_stripes_7 rfl
theorem dX11_stripes_8 : decode cX11_stripes 8 = .ok (.getfield 56, 3) := by decide +kernel
theorem tX11_stripes_8 {d : Nat} {l0 l1 l2 l3 l4 l5 l6 : Option Value} {a : Nat} {m : jmM} {Q : Option Value → jmM → Prop} : AW d 171 8 [l0, l1, l2, l3, l4, l5, l6] [.ref a] m Q ↔ (mS m a).1 = 11 ∧ AW d 171 11 [l0, l1, l2, l3, l4, l5, l6] [va_rf (mR m a 8)] m Q := A_getfield (f := fun m a => va_rf (mR m a 8)) hB_X11_stripes dX11_stripes_8 hO_X11_stripes fF_11_56 rfl
theorem dX11_stripes_11 : decode cX11_stripes 11 = .ok (.iload_n 2, 1) := by decide +kernel
theorem tX11_stripes_11 {d : Nat} {l0 l1 l3 l4 l5 l6 : Option Value} {v0 : Value} {x : Int32} {m : jmM} {Q : Option Value → jmM → Prop} : AW d 171 11 [l0, l1, some (.int x), l3, l4, l5, l6] [v0] m Q ↔ AW d 171 12 [l0, l1, some (.int x), l3, l4, l5, l6] [.int x, v0] m Q := A_iload_n hB_X11_stripes dX11_stripes_11 rfl
theorem dX11_stripes_12 : decode cX11_stripes 12 = .ok (.invokevirtual 193, 3) := by decide +kernel
theorem tX11_stripes_12 {d : Nat} {l0 l1 l2 l3 l4 l5 l6 : Option Value} {y0 : Value} {a : Nat} {m : jmM} {Q : Option Value → jmM → Prop} : AW d 171 12 [l0, l1, l2, l3, l4, l5, l6] [y0, .ref a] m Q ↔ (mS m a).1 = 5 ∧ CC d 72 [.ref a, y0] m (jK d 171 15 [l0, l1, l2, l3, l4, l5, l6] [] Q) := A_callV hB_X11_stripes dX11_stripes_12 hO_X11_stripes fS_11_193 ⟨Nat.le_of_ble_eq_true rfl, Nat.le_of_ble_eq_true rfl⟩ rfl rfl rfl
theorem dX11_stripes_15 : decode cX11_stripes 15 = .ok (.ifCond .eq 31, 3) := by decide +kernel
theorem tX11_stripes_15 {d : Nat} {l0 l1 l2 l3 l4 l5 l6 : Option Value} {x : Int32} {m : jmM} {Q : Option Value → jmM → Prop} : AW d 171 15 [l0, l1, l2, l3, l4, l5, l6] [.int x] m Q ↔ if x = 0 then AW d 171 46 [l0, l1, l2, l3, l4, l5, l6] [] m Q else AW d 171 18 [l0, l1, l2, l3, l4, l5, l6] [] m Q := A_if_eq hB_X11_stripes dX11_stripes_15 (by decide)
theorem dX11_stripes_18 : decode cX11_stripes 18 = .ok (.aload_n 0, 1) := by decide +kernel
theorem tX11_stripes_18 {d : Nat} {l1 l2 l3 l4 l5 l6 : Option Value} {x : Nat} {m : jmM} {Q : Option Value → jmM → Prop} : AW d 171 18 [some (.ref x), l1, l2, l3, l4, l5, l6] [] m Q ↔ AW d 171 19 [some (.ref x), l1, l2, l3, l4, l5, l6] [.ref x] m Q := A_aload_n hB_X11_stripes dX11_stripes_18 rfl
theorem dX11_stripes_19 : decode cX11_stripes 19 = .ok (.getfield 56, 3) := by decide +kernel
theorem tX11_stripes_19 {d : Nat} {l0 l1 l2 l3 l4 l5 l6 : Option Value} {a : Nat} {m : jmM} {Q : Option Value → jmM → Prop} : AW d 171 19 [l0, l1, l2, l3, l4, l5, l6] [.ref a] m Q ↔ (mS m a).1 = 11 ∧ AW d 171 22 [l0, l1, l2, l3, l4, l5, l6] [va_rf (mR m a 8)] m Q := A_getfield (f := fun m a => va_rf (mR m a 8)) hB_X11_stripes dX11_stripes_19 hO_X11_stripes fF_11_56 rfl
theorem dX11_stripes_22 : decode cX11_stripes 22 = .ok (.iload_n 3, 1) := by decide +kernel
theorem tX11_stripes_22 {d : Nat} {l0 l1 l2 l4 l5 l6 : Option Value} {v0 : Value} {x : Int32} {m : jmM} {Q : Option Value → jmM → Prop} : AW d 171 22 [l0, l1, l2, some (.int x), l4, l5, l6] [v0] m Q ↔ AW d 171 23 [l0, l1, l2, some (.int x), l4, l5, l6] [.int x, v0] m Q := A_iload_n hB_X11_stripes dX11_stripes_22 rfl
theorem dX11_stripes_23 : decode cX11_stripes 23 = .ok (.invokevirtual 193, 3) := by decide +kernel
theorem tX11_stripes_23 {d : Nat} {l0 l1 l2 l3 l4 l5 l6 : Option Value} {y0 : Value} {a : Nat} {m : jmM} {Q : Option Value → jmM → Prop} : AW d 171 23 [l0, l1, l2, l3, l4, l5, l6] [y0, .ref a] m Q ↔ (mS m a).1 = 5 ∧ CC d 72 [.ref a, y0] m (jK d 171 26 [l0, l1, l2, l3, l4, l5, l6] [] Q) := A_callV hB_X11_stripes dX11_stripes_23 hO_X11_stripes fS_11_193 ⟨Nat.le_of_ble_eq_true rfl, Nat.le_of_ble_eq_true rfl⟩ rfl rfl rfl
theorem dX11_stripes_26 : decode cX11_stripes 26 = .ok (.ifCond .eq 20, 3) := by decide +kernel
theorem tX11_stripes_26 {d : Nat} {l0 l1 l2 l3 l4 l5 l6 : Option Value} {x : Int32} {m : jmM} {Q : Option Value → jmM → Prop} : AW d 171 26 [l0, l1, l2, l3, l4, l5, l6] [.int x] m Q ↔ if x = 0 then AW d 171 46 [l0, l1, l2, l3, l4, l5, l6] [] m Q else AW d 171 29 [l0, l1, l2, l3, l4, l5, l6] [] m Q := A_if_eq hB_X11_stripes dX11_stripes_26 (by decide)
theorem dX11_stripes_29 : decode cX11_stripes 29 = .ok (.iload_n 3, 1) := by decide +kernel
theorem tX11_stripes_29 {d : Nat} {l0 l1 l2 l4 l5 l6 : Option Value} {x : Int32} {m : jmM} {Q : Option Value → jmM → Prop} : AW d 171 29 [l0, l1, l2, some (.int x), l4, l5, l6] [] m Q ↔ AW d 171 30 [l0, l1, l2, some (.int x), l4, l5, l6] [.int x] m Q := A_iload_n hB_X11_stripes dX11_stripes_29 rfl
theorem dX11_stripes_30 : decode cX11_stripes 30 = .ok (.iload_n 2, 1) := by decide +kernel
theorem tX11_stripes_30 {d : Nat} {l0 l1 l3 l4 l5 l6 : Option Value} {v0 : Value} {x : Int32} {m : jmM} {Q : Option Value → jmM → Prop} : AW d 171 30 [l0, l1, some (.int x), l3, l4, l5, l6] [v0] m Q ↔ AW d 171 31 [l0, l1, some (.int x), l3, l4, l5, l6] [.int x, v0] m Q := A_iload_n hB_X11_stripes dX11_stripes_30 rfl
theorem dX11_stripes_31 : decode cX11_stripes 31 = .ok (.if_icmp .lt 15, 3) := by decide +kernel
theorem tX11_stripes_31 {d : Nat} {l0 l1 l2 l3 l4 l5 l6 : Option Value} {x y : Int32} {m : jmM} {Q : Option Value → jmM → Prop} : AW d 171 31 [l0, l1, l2, l3, l4, l5, l6] [.int y, .int x] m Q ↔ if x < y then AW d 171 46 [l0, l1, l2, l3, l4, l5, l6] [] m Q else AW d 171 34 [l0, l1, l2, l3, l4, l5, l6] [] m Q := A_icmp_lt hB_X11_stripes dX11_stripes_31 (by decide)
theorem dX11_stripes_34 : decode cX11_stripes 34 = .ok (.iload 4, 2) := by decide +kernel
theorem tX11_stripes_34 {d : Nat} {l0 l1 l2 l3 l5 l6 : Option Value} {x : Int32} {m : jmM} {Q : Option Value → jmM → Prop} : AW d 171 34 [l0, l1, l2, l3, some (.int x), l5, l6] [] m Q ↔ AW d 171 36 [l0, l1, l2, l3, some (.int x), l5, l6] [.int x] m Q := A_iload hB_X11_stripes dX11_stripes_34 rfl
theorem dX11_stripes_36 : decode cX11_stripes 36 = .ok (.iconst 0, 1) := by decide +kernel
theorem tX11_stripes_36 {d : Nat} {l0 l1 l2 l3 l4 l5 l6 : Option Value} {v0 : Value} {m : jmM} {Q : Option Value → jmM → Prop} : AW d 171 36 [l0, l1, l2, l3, l4, l5, l6] [v0] m Q ↔ AW d 171 37 [l0, l1, l2, l3, l4, l5, l6] [.int 0, v0] m Q := A_iconst hB_X11_stripes dX11_stripes_36 (by decide)
theorem dX11_stripes_37 : decode cX11_stripes 37 = .ok (.ldc_w 286, 3) := by decide +kernel
theorem tX11_stripes_37 {d : Nat} {l0 l1 l2 l3 l4 l5 l6 : Option Value} {v0 v1 : Value} {m : jmM} {Q : Option Value → jmM → Prop} : AW d 171 37 [l0, l1, l2, l3, l4, l5, l6] [v0, v1] m Q ↔ AW d 171 40 [l0, l1, l2, l3, l4, l5, l6] [.int 1000000000, v0, v1] m Q := A_ldc_w hB_X11_stripes dX11_stripes_37 hO_X11_stripes fL_11_286
theorem dX11_stripes_40 : decode cX11_stripes 40 = .ok (.invokestatic 128, 3) := by decide +kernel
theorem tX11_stripes_40 {d : Nat} {l0 l1 l2 l3 l4 l5 l6 : Option Value} {y0 y1 y2 : Value} {m : jmM} {Q : Option Value → jmM → Prop} : AW d 171 40 [l0, l1, l2, l3, l4, l5, l6] [y0, y1, y2] m Q ↔ CC d 183 [y2, y1, y0] m (jK d 171 43 [l0, l1, l2, l3, l4, l5, l6] [] Q) := A_callS0 hB_X11_stripes dX11_stripes_40 hO_X11_stripes fS_11_128 ⟨Nat.le_of_ble_eq_true rfl, Nat.le_of_ble_eq_true rfl⟩ rfl rfl
theorem dX11_stripes_43 : decode cX11_stripes 43 = .ok (.ifCond .ne 5, 3) := by decide +kernel
theorem tX11_stripes_43 {d : Nat} {l0 l1 l2 l3 l4 l5 l6 : Option Value} {x : Int32} {m : jmM} {Q : Option Value → jmM → Prop} : AW d 171 43 [l0, l1, l2, l3, l4, l5, l6] [.int x] m Q ↔ if x = 0 then AW d 171 46 [l0, l1, l2, l3, l4, l5, l6] [] m Q else AW d 171 48 [l0, l1, l2, l3, l4, l5, l6] [] m Q := A_if_ne hB_X11_stripes dX11_stripes_43 (by decide)
theorem dX11_stripes_46 : decode cX11_stripes 46 = .ok (.iconst (-1), 1) := by decide +kernel
theorem tX11_stripes_46 {d : Nat} {l0 l1 l2 l3 l4 l5 l6 : Option Value} {m : jmM} {Q : Option Value → jmM → Prop} : AW d 171 46 [l0, l1, l2, l3, l4, l5, l6] [] m Q ↔ AW d 171 47 [l0, l1, l2, l3, l4, l5, l6] [.int (-1)] m Q := A_iconst hB_X11_stripes dX11_stripes_46 (by decide)
theorem dX11_stripes_47 : decode cX11_stripes 47 = .ok (.ireturn, 1) := by decide +kernel
theorem tX11_stripes_47 {d : Nat} {l0 l1 l2 l3 l4 l5 l6 : Option Value} {x : Int32} {m : jmM} {Q : Option Value → jmM → Prop} : AW d 171 47 [l0, l1, l2, l3, l4, l5, l6] [.int x] m Q ↔ Q (some (.int x)) m := A_ireturn hB_X11_stripes dX11_stripes_47 hR_X11_stripes
theorem dX11_stripes_48 : decode cX11_stripes 48 = .ok (.iconst 0, 1) := by decide +kernel
theorem tX11_stripes_48 {d : Nat} {l0 l1 l2 l3 l4 l5 l6 : Option Value} {m : jmM} {Q : Option Value → jmM → Prop} : AW d 171 48 [l0, l1, l2, l3, l4, l5, l6] [] m Q ↔ AW d 171 49 [l0, l1, l2, l3, l4, l5, l6] [.int 0] m Q := A_iconst hB_X11_stripes dX11_stripes_48 (by decide)
theorem dX11_stripes_49 : decode cX11_stripes 49 = .ok (.istore 5, 2) := by decide +kernel
theorem tX11_stripes_49 {d : Nat} {l0 l1 l2 l3 l4 l5 l6 : Option Value} {x : Int32} {m : jmM} {Q : Option Value → jmM → Prop} : AW d 171 49 [l0, l1, l2, l3, l4, l5, l6] [.int x] m Q ↔ AW d 171 51 [l0, l1, l2, l3, jc1 l4, some (.int x), l6] [] m Q := A_istore hB_X11_stripes dX11_stripes_49 (Nat.le_of_ble_eq_true rfl) rfl
theorem dX11_stripes_51 : decode cX11_stripes 51 = .ok (.iload_n 2, 1) := by decide +kernel
theorem tX11_stripes_51 {d : Nat} {l0 l1 l3 l4 l5 l6 : Option Value} {x : Int32} {m : jmM} {Q : Option Value → jmM → Prop} : AW d 171 51 [l0, l1, some (.int x), l3, l4, l5, l6] [] m Q ↔ AW d 171 52 [l0, l1, some (.int x), l3, l4, l5, l6] [.int x] m Q := A_iload_n hB_X11_stripes dX11_stripes_51 rfl
theorem dX11_stripes_52 : decode cX11_stripes 52 = .ok (.iconst 1, 1) := by decide +kernel
theorem tX11_stripes_52 {d : Nat} {l0 l1 l2 l3 l4 l5 l6 : Option Value} {v0 : Value} {m : jmM} {Q : Option Value → jmM → Prop} : AW d 171 52 [l0, l1, l2, l3, l4, l5, l6] [v0] m Q ↔ AW d 171 53 [l0, l1, l2, l3, l4, l5, l6] [.int 1, v0] m Q := A_iconst hB_X11_stripes dX11_stripes_52 (by decide)
theorem dX11_stripes_53 : decode cX11_stripes 53 = .ok (.iadd, 1) := by decide +kernel
theorem tX11_stripes_53 {d : Nat} {l0 l1 l2 l3 l4 l5 l6 : Option Value} {x y : Int32} {m : jmM} {Q : Option Value → jmM → Prop} : AW d 171 53 [l0, l1, l2, l3, l4, l5, l6] [.int y, .int x] m Q ↔ AW d 171 54 [l0, l1, l2, l3, l4, l5, l6] [.int (x + y)] m Q := A_iadd hB_X11_stripes dX11_stripes_53
theorem dX11_stripes_54 : decode cX11_stripes 54 = .ok (.istore 6, 2) := by decide +kernel
theorem tX11_stripes_54 {d : Nat} {l0 l1 l2 l3 l4 l5 l6 : Option Value} {x : Int32} {m : jmM} {Q : Option Value → jmM → Prop} : AW d 171 54 [l0, l1, l2, l3, l4, l5, l6] [.int x] m Q ↔ AW d 171 56 [l0, l1, l2, l3, l4, jc1 l5, some (.int x)] [] m Q := A_istore hB_X11_stripes dX11_stripes_54 (Nat.le_of_ble_eq_true rfl) rfl
theorem dX11_stripes_56 : decode cX11_stripes 56 = .ok (.iload 6, 2) := by decide +kernel
theorem tX11_stripes_56 {d : Nat} {l0 l1 l2 l3 l4 l5 : Option Value} {x : Int32} {m : jmM} {Q : Option Value → jmM → Prop} : AW d 171 56 [l0, l1, l2, l3, l4, l5, some (.int x)] [] m Q ↔ AW d 171 58 [l0, l1, l2, l3, l4, l5, some (.int x)] [.int x] m Q := A_iload hB_X11_stripes dX11_stripes_56 rfl
theorem dX11_stripes_58 : decode cX11_stripes 58 = .ok (.iload_n 3, 1) := by decide +kernel
theorem tX11_stripes_58 {d : Nat} {l0 l1 l2 l4 l5 l6 : Option Value} {v0 : Value} {x : Int32} {m : jmM} {Q : Option Value → jmM → Prop} : AW d 171 58 [l0, l1, l2, some (.int x), l4, l5, l6] [v0] m Q ↔ AW d 171 59 [l0, l1, l2, some (.int x), l4, l5, l6] [.int x, v0] m Q := A_iload_n hB_X11_stripes dX11_stripes_58 rfl
theorem dX11_stripes_59 : decode cX11_stripes 59 = .ok (.if_icmp .gt 45, 3) := by decide +kernel
theorem tX11_stripes_59 {d : Nat} {l0 l1 l2 l3 l4 l5 l6 : Option Value} {x y : Int32} {m : jmM} {Q : Option Value → jmM → Prop} : AW d 171 59 [l0, l1, l2, l3, l4, l5, l6] [.int y, .int x] m Q ↔ if y < x then AW d 171 104 [l0, l1, l2, l3, l4, l5, l6] [] m Q else AW d 171 62 [l0, l1, l2, l3, l4, l5, l6] [] m Q := A_icmp_gt hB_X11_stripes dX11_stripes_59 (by decide)
theorem dX11_stripes_62 : decode cX11_stripes 62 = .ok (.aload_n 0, 1) := by decide +kernel
theorem tX11_stripes_62 {d : Nat} {l1 l2 l3 l4 l5 l6 : Option Value} {x : Nat} {m : jmM} {Q : Option Value → jmM → Prop} : AW d 171 62 [some (.ref x), l1, l2, l3, l4, l5, l6] [] m Q ↔ AW d 171 63 [some (.ref x), l1, l2, l3, l4, l5, l6] [.ref x] m Q := A_aload_n hB_X11_stripes dX11_stripes_62 rfl
theorem dX11_stripes_63 : decode cX11_stripes 63 = .ok (.getfield 56, 3) := by decide +kernel
theorem tX11_stripes_63 {d : Nat} {l0 l1 l2 l3 l4 l5 l6 : Option Value} {a : Nat} {m : jmM} {Q : Option Value → jmM → Prop} : AW d 171 63 [l0, l1, l2, l3, l4, l5, l6] [.ref a] m Q ↔ (mS m a).1 = 11 ∧ AW d 171 66 [l0, l1, l2, l3, l4, l5, l6] [va_rf (mR m a 8)] m Q := A_getfield (f := fun m a => va_rf (mR m a 8)) hB_X11_stripes dX11_stripes_63 hO_X11_stripes fF_11_56 rfl
theorem dX11_stripes_66 : decode cX11_stripes 66 = .ok (.iload_n 1, 1) := by decide +kernel
theorem tX11_stripes_66 {d : Nat} {l0 l2 l3 l4 l5 l6 : Option Value} {v0 : Value} {x : Int32} {m : jmM} {Q : Option Value → jmM → Prop} : AW d 171 66 [l0, some (.int x), l2, l3, l4, l5, l6] [v0] m Q ↔ AW d 171 67 [l0, some (.int x), l2, l3, l4, l5, l6] [.int x, v0] m Q := A_iload_n hB_X11_stripes dX11_stripes_66 rfl
theorem dX11_stripes_67 : decode cX11_stripes 67 = .ok (.iload 6, 2) := by decide +kernel
theorem tX11_stripes_67 {d : Nat} {l0 l1 l2 l3 l4 l5 : Option Value} {v0 v1 : Value} {x : Int32} {m : jmM} {Q : Option Value → jmM → Prop} : AW d 171 67 [l0, l1, l2, l3, l4, l5, some (.int x)] [v0, v1] m Q ↔ AW d 171 69 [l0, l1, l2, l3, l4, l5, some (.int x)] [.int x, v0, v1] m Q := A_iload hB_X11_stripes dX11_stripes_67 rfl
theorem dX11_stripes_69 : decode cX11_stripes 69 = .ok (.invokevirtual 229, 3) := by decide +kernel
theorem tX11_stripes_69 {d : Nat} {l0 l1 l2 l3 l4 l5 l6 : Option Value} {y0 y1 : Value} {a : Nat} {m : jmM} {Q : Option Value → jmM → Prop} : AW d 171 69 [l0, l1, l2, l3, l4, l5, l6] [y0, y1, .ref a] m Q ↔ (mS m a).1 = 5 ∧ CC d 87 [.ref a, y1, y0] m (jK d 171 72 [l0, l1, l2, l3, l4, l5, l6] [] Q) := A_callV hB_X11_stripes dX11_stripes_69 hO_X11_stripes fS_11_229 ⟨Nat.le_of_ble_eq_true rfl, Nat.le_of_ble_eq_true rfl⟩ rfl rfl rfl
theorem dX11_stripes_72 : decode cX11_stripes 72 = .ok (.aload_n 0, 1) := by decide +kernel
theorem tX11_stripes_72 {d : Nat} {l1 l2 l3 l4 l5 l6 : Option Value} {v0 : Value} {x : Nat} {m : jmM} {Q : Option Value → jmM → Prop} : AW d 171 72 [some (.ref x), l1, l2, l3, l4, l5, l6] [v0] m Q ↔ AW d 171 73 [some (.ref x), l1, l2, l3, l4, l5, l6] [.ref x, v0] m Q := A_aload_n hB_X11_stripes dX11_stripes_72 rfl
theorem dX11_stripes_73 : decode cX11_stripes 73 = .ok (.getfield 56, 3) := by decide +kernel
theorem tX11_stripes_73 {d : Nat} {l0 l1 l2 l3 l4 l5 l6 : Option Value} {v1 : Value} {a : Nat} {m : jmM} {Q : Option Value → jmM → Prop} : AW d 171 73 [l0, l1, l2, l3, l4, l5, l6] [.ref a, v1] m Q ↔ (mS m a).1 = 11 ∧ AW d 171 76 [l0, l1, l2, l3, l4, l5, l6] [va_rf (mR m a 8), v1] m Q := A_getfield (f := fun m a => va_rf (mR m a 8)) hB_X11_stripes dX11_stripes_73 hO_X11_stripes fF_11_56 rfl
theorem dX11_stripes_76 : decode cX11_stripes 76 = .ok (.iload_n 1, 1) := by decide +kernel
theorem tX11_stripes_76 {d : Nat} {l0 l2 l3 l4 l5 l6 : Option Value} {v0 v1 : Value} {x : Int32} {m : jmM} {Q : Option Value → jmM → Prop} : AW d 171 76 [l0, some (.int x), l2, l3, l4, l5, l6] [v0, v1] m Q ↔ AW d 171 77 [l0, some (.int x), l2, l3, l4, l5, l6] [.int x, v0, v1] m Q := A_iload_n hB_X11_stripes dX11_stripes_76 rfl
theorem dX11_stripes_77 : decode cX11_stripes 77 = .ok (.iload 6, 2) := by decide +kernel
theorem tX11_stripes_77 {d : Nat} {l0 l1 l2 l3 l4 l5 : Option Value} {v0 v1 v2 : Value} {x : Int32} {m : jmM} {Q : Option Value → jmM → Prop} : AW d 171 77 [l0, l1, l2, l3, l4, l5, some (.int x)] [v0, v1, v2] m Q ↔ AW d 171 79 [l0, l1, l2, l3, l4, l5, some (.int x)] [.int x, v0, v1, v2] m Q := A_iload hB_X11_stripes dX11_stripes_77 rfl
theorem dX11_stripes_79 : decode cX11_stripes 79 = .ok (.iconst 1, 1) := by decide +kernel
theorem tX11_stripes_79 {d : Nat} {l0 l1 l2 l3 l4 l5 l6 : Option Value} {v0 v1 v2 v3 : Value} {m : jmM} {Q : Option Value → jmM → Prop} : AW d 171 79 [l0, l1, l2, l3, l4, l5, l6] [v0, v1, v2, v3] m Q ↔ AW d 171 80 [l0, l1, l2, l3, l4, l5, l6] [.int 1, v0, v1, v2, v3] m Q := A_iconst hB_X11_stripes dX11_stripes_79 (by decide)
theorem dX11_stripes_80 : decode cX11_stripes 80 = .ok (.isub, 1) := by decide +kernel
theorem tX11_stripes_80 {d : Nat} {l0 l1 l2 l3 l4 l5 l6 : Option Value} {v2 v3 v4 : Value} {x y : Int32} {m : jmM} {Q : Option Value → jmM → Prop} : AW d 171 80 [l0, l1, l2, l3, l4, l5, l6] [.int y, .int x, v2, v3, v4] m Q ↔ AW d 171 81 [l0, l1, l2, l3, l4, l5, l6] [.int (x - y), v2, v3, v4] m Q := A_isub hB_X11_stripes dX11_stripes_80
theorem dX11_stripes_81 : decode cX11_stripes 81 = .ok (.invokevirtual 229, 3) := by decide +kernel
theorem tX11_stripes_81 {d : Nat} {l0 l1 l2 l3 l4 l5 l6 : Option Value} {v3 : Value} {y0 y1 : Value} {a : Nat} {m : jmM} {Q : Option Value → jmM → Prop} : AW d 171 81 [l0, l1, l2, l3, l4, l5, l6] [y0, y1, .ref a, v3] m Q ↔ (mS m a).1 = 5 ∧ CC d 87 [.ref a, y1, y0] m (jK d 171 84 [l0, l1, l2, l3, l4, l5, l6] [v3] Q) := A_callV hB_X11_stripes dX11_stripes_81 hO_X11_stripes fS_11_229 ⟨Nat.le_of_ble_eq_true rfl, Nat.le_of_ble_eq_true rfl⟩ rfl rfl rfl
theorem dX11_stripes_84 : decode cX11_stripes 84 = .ok (.lsub, 1) := by decide +kernel
theorem tX11_stripes_84 {d : Nat} {l0 l1 l2 l3 l4 l5 l6 : Option Value} {x y : Int64} {m : jmM} {Q : Option Value → jmM → Prop} : AW d 171 84 [l0, l1, l2, l3, l4, l5, l6] [.long y, .long x] m Q ↔ AW d 171 85 [l0, l1, l2, l3, l4, l5, l6] [.long (x - y)] m Q := A_lsub hB_X11_stripes dX11_stripes_84
theorem dX11_stripes_85 : decode cX11_stripes 85 = .ok (.invokestatic 321, 3) := by decide +kernel
theorem tX11_stripes_85 {d : Nat} {l0 l1 l2 l3 l4 l5 l6 : Option Value} {x : Int64} {m : jmM} {Q : Option Value → jmM → Prop} : AW d 171 85 [l0, l1, l2, l3, l4, l5, l6] [.long x] m Q ↔ AW d 171 88 [l0, l1, l2, l3, l4, l5, l6] [.long (if 0 < x then x else -x)] m Q := A_absl hB_X11_stripes dX11_stripes_85 hO_X11_stripes fS_11_321 (Nat.le_of_ble_eq_true rfl)
theorem dX11_stripes_88 : decode cX11_stripes 88 = .ok (.iload 4, 2) := by decide +kernel
theorem tX11_stripes_88 {d : Nat} {l0 l1 l2 l3 l5 l6 : Option Value} {v0 : Value} {x : Int32} {m : jmM} {Q : Option Value → jmM → Prop} : AW d 171 88 [l0, l1, l2, l3, some (.int x), l5, l6] [v0] m Q ↔ AW d 171 90 [l0, l1, l2, l3, some (.int x), l5, l6] [.int x, v0] m Q := A_iload hB_X11_stripes dX11_stripes_88 rfl
theorem dX11_stripes_90 : decode cX11_stripes 90 = .ok (.i2l, 1) := by decide +kernel
theorem tX11_stripes_90 {d : Nat} {l0 l1 l2 l3 l4 l5 l6 : Option Value} {v1 : Value} {x : Int32} {m : jmM} {Q : Option Value → jmM → Prop} : AW d 171 90 [l0, l1, l2, l3, l4, l5, l6] [.int x, v1] m Q ↔ AW d 171 91 [l0, l1, l2, l3, l4, l5, l6] [.long x.toInt64, v1] m Q := A_i2l hB_X11_stripes dX11_stripes_90
theorem dX11_stripes_91 : decode cX11_stripes 91 = .ok (.lcmp, 1) := by decide +kernel
theorem tX11_stripes_91 {d : Nat} {l0 l1 l2 l3 l4 l5 l6 : Option Value} {x y : Int64} {m : jmM} {Q : Option Value → jmM → Prop} : AW d 171 91 [l0, l1, l2, l3, l4, l5, l6] [.long y, .long x] m Q ↔ AW d 171 92 [l0, l1, l2, l3, l4, l5, l6] [.int (lg_cmp x y)] m Q := A_lcmp hB_X11_stripes dX11_stripes_91
theorem dX11_stripes_92 : decode cX11_stripes 92 = .ok (.ifCond .le 6, 3) := by decide +kernel
theorem tX11_stripes_92 {d : Nat} {l0 l1 l2 l3 l4 l5 l6 : Option Value} {x : Int32} {m : jmM} {Q : Option Value → jmM → Prop} : AW d 171 92 [l0, l1, l2, l3, l4, l5, l6] [.int x] m Q ↔ if x ≤ 0 then AW d 171 98 [l0, l1, l2, l3, l4, l5, l6] [] m Q else AW d 171 95 [l0, l1, l2, l3, l4, l5, l6] [] m Q := A_if_le hB_X11_stripes dX11_stripes_92 (by decide)
theorem dX11_stripes_95 : decode cX11_stripes 95 = .ok (.iinc 5 1, 3) := by decide +kernel
theorem tX11_stripes_95 {d : Nat} {l0 l1 l2 l3 l4 l6 : Option Value} {x : Int32} {m : jmM} {Q : Option Value → jmM → Prop} : AW d 171 95 [l0, l1, l2, l3, l4, some (.int x), l6] [] m Q ↔ AW d 171 98 [l0, l1, l2, l3, jc1 l4, some (.int (x + 1)), l6] [] m Q := A_iinc hB_X11_stripes dX11_stripes_95 rfl (Nat.le_of_ble_eq_true rfl) (v := 1) (by decide) rfl
theorem dX11_stripes_98 : decode cX11_stripes 98 = .ok (.iinc 6 1, 3) := by decide +kernel
theorem tX11_stripes_98 {d : Nat} {l0 l1 l2 l3 l4 l5 : Option Value} {x : Int32} {m : jmM} {Q : Option Value → jmM → Prop} : AW d 171 98 [l0, l1, l2, l3, l4, l5, some (.int x)] [] m Q ↔ AW d 171 101 [l0, l1, l2, l3, l4, jc1 l5, some (.int (x + 1))] [] m Q := A_iinc hB_X11_stripes dX11_stripes_98 rfl (Nat.le_of_ble_eq_true rfl) (v := 1) (by decide) rfl
theorem dX11_stripes_101 : decode cX11_stripes 101 = .ok (.goto (-45), 3) := by decide +kernel
theorem tX11_stripes_101 {d : Nat} {l0 l1 l2 l3 l4 l5 l6 : Option Value} {m : jmM} {Q : Option Value → jmM → Prop} : AW d 171 101 [l0, l1, l2, l3, l4, l5, l6] [] m Q ↔ AW d 171 56 [l0, l1, l2, l3, l4, l5, l6] [] m Q := A_goto hB_X11_stripes dX11_stripes_101 (by decide)
theorem dX11_stripes_104 : decode cX11_stripes 104 = .ok (.iload 5, 2) := by decide +kernel
theorem tX11_stripes_104 {d : Nat} {l0 l1 l2 l3 l4 l6 : Option Value} {x : Int32} {m : jmM} {Q : Option Value → jmM → Prop} : AW d 171 104 [l0, l1, l2, l3, l4, some (.int x), l6] [] m Q ↔ AW d 171 106 [l0, l1, l2, l3, l4, some (.int x), l6] [.int x] m Q := A_iload hB_X11_stripes dX11_stripes_104 rfl
theorem dX11_stripes_106 : decode cX11_stripes 106 = .ok (.ireturn, 1) := by decide +kernel
theorem tX11_stripes_106 {d : Nat} {l0 l1 l2 l3 l4 l5 l6 : Option Value} {x : Int32} {m : jmM} {Q : Option Value → jmM → Prop} : AW d 171 106 [l0, l1, l2, l3, l4, l5, l6] [.int x] m Q ↔ Q (some (.int x)) m := A_ireturn hB_X11_stripes dX11_stripes_106 hR_X11_stripes
theorem hB_X11_ring : jB 172 = cX11_ring := rfl
theorem hO_X11_ring : jO 172 = 11 := rfl
theorem hR_X11_ring : jRt 172 = (some .int) := rfl
theorem nX11_ring (d : Nat) (x0 : Nat) (x1 : Int32) (x2 : Int32) (m : jmM) (Q : Option Value → jmM → Prop) : CC (d + 1) 172 [.ref x0, .int x1, .int x2] m Q ↔ AW d 172 0 [some (.ref x0), some (.int x1), some (.int x2)] [] m Q := CC_body (Nat.le_of_ble_eq_true rfl)
theorem dX11_ring_0 : decode cX11_ring 0 = .ok (.aload_n 0, 1) := by decide +kernel
theorem tX11_ring_0 {d : Nat} {l1 l2 : Option Value} {x : Nat} {m : jmM} {Q : Option Value → jmM → Prop} : AW d 172 0 [some (.ref x), l1, l2] [] m Q ↔ AW d 172 1 [some (.ref x), l1, l2] [.ref x] m Q := A_aload_n hB_X11_ring dX11_ring_0 rfl
theorem dX11_ring_1 : decode cX11_ring 1 = .ok (.getfield 102, 3) := by decide +kernel
theorem tX11_ring_1 {d : Nat} {l0 l1 l2 : Option Value} {a : Nat} {m : jmM} {Q : Option Value → jmM → Prop} : AW d 172 1 [l0, l1, l2] [.ref a] m Q ↔ (mS m a).1 = 11 ∧ AW d 172 4 [l0, l1, l2] [.int (mI m a 18)] m Q := A_getfield (f := fun m a => .int (mI m a 18)) hB_X11_ring dX11_ring_1 hO_X11_ring fF_11_102 rfl
theorem dX11_ring_4 : decode cX11_ring 4 = .ok (.sipush 200, 3) := by decide +kernel
theorem tX11_ring_4 {d : Nat} {l0 l1 l2 : Option Value} {v0 : Value} {m : jmM} {Q : Option Value → jmM → Prop} : AW d 172 4 [l0, l1, l2] [v0] m Q ↔ AW d 172 7 [l0, l1, l2] [.int 200, v0] m Q := A_sipush hB_X11_ring dX11_ring_4 rfl
theorem dX11_ring_7 : decode cX11_ring 7 = .ok (.if_icmp .ge 27, 3) := by decide +kernel
theorem tX11_ring_7 {d : Nat} {l0 l1 l2 : Option Value} {x y : Int32} {m : jmM} {Q : Option Value → jmM → Prop} : AW d 172 7 [l0, l1, l2] [.int y, .int x] m Q ↔ if y ≤ x then AW d 172 34 [l0, l1, l2] [] m Q else AW d 172 10 [l0, l1, l2] [] m Q := A_icmp_ge hB_X11_ring dX11_ring_7 (by decide)
theorem dX11_ring_10 : decode cX11_ring 10 = .ok (.iload_n 1, 1) := by decide +kernel
theorem tX11_ring_10 {d : Nat} {l0 l2 : Option Value} {x : Int32} {m : jmM} {Q : Option Value → jmM → Prop} : AW d 172 10 [l0, some (.int x), l2] [] m Q ↔ AW d 172 11 [l0, some (.int x), l2] [.int x] m Q := A_iload_n hB_X11_ring dX11_ring_10 rfl
theorem dX11_ring_11 : decode cX11_ring 11 = .ok (.iconst 0, 1) := by decide +kernel
theorem tX11_ring_11 {d : Nat} {l0 l1 l2 : Option Value} {v0 : Value} {m : jmM} {Q : Option Value → jmM → Prop} : AW d 172 11 [l0, l1, l2] [v0] m Q ↔ AW d 172 12 [l0, l1, l2] [.int 0, v0] m Q := A_iconst hB_X11_ring dX11_ring_11 (by decide)
theorem dX11_ring_12 : decode cX11_ring 12 = .ok (.sipush 599, 3) := by decide +kernel
theorem tX11_ring_12 {d : Nat} {l0 l1 l2 : Option Value} {v0 v1 : Value} {m : jmM} {Q : Option Value → jmM → Prop} : AW d 172 12 [l0, l1, l2] [v0, v1] m Q ↔ AW d 172 15 [l0, l1, l2] [.int 599, v0, v1] m Q := A_sipush hB_X11_ring dX11_ring_12 rfl
theorem dX11_ring_15 : decode cX11_ring 15 = .ok (.invokestatic 128, 3) := by decide +kernel
theorem tX11_ring_15 {d : Nat} {l0 l1 l2 : Option Value} {y0 y1 y2 : Value} {m : jmM} {Q : Option Value → jmM → Prop} : AW d 172 15 [l0, l1, l2] [y0, y1, y2] m Q ↔ CC d 183 [y2, y1, y0] m (jK d 172 18 [l0, l1, l2] [] Q) := A_callS0 hB_X11_ring dX11_ring_15 hO_X11_ring fS_11_128 ⟨Nat.le_of_ble_eq_true rfl, Nat.le_of_ble_eq_true rfl⟩ rfl rfl
theorem dX11_ring_18 : decode cX11_ring 18 = .ok (.ifCond .eq 16, 3) := by decide +kernel
theorem tX11_ring_18 {d : Nat} {l0 l1 l2 : Option Value} {x : Int32} {m : jmM} {Q : Option Value → jmM → Prop} : AW d 172 18 [l0, l1, l2] [.int x] m Q ↔ if x = 0 then AW d 172 34 [l0, l1, l2] [] m Q else AW d 172 21 [l0, l1, l2] [] m Q := A_if_eq hB_X11_ring dX11_ring_18 (by decide)
theorem dX11_ring_21 : decode cX11_ring 21 = .ok (.iload_n 2, 1) := by decide +kernel
theorem tX11_ring_21 {d : Nat} {l0 l1 : Option Value} {x : Int32} {m : jmM} {Q : Option Value → jmM → Prop} : AW d 172 21 [l0, l1, some (.int x)] [] m Q ↔ AW d 172 22 [l0, l1, some (.int x)] [.int x] m Q := A_iload_n hB_X11_ring dX11_ring_21 rfl
theorem dX11_ring_22 : decode cX11_ring 22 = .ok (.sipush (-9999), 3) := by decide +kernel
theorem tX11_ring_22 {d : Nat} {l0 l1 l2 : Option Value} {v0 : Value} {m : jmM} {Q : Option Value → jmM → Prop} : AW d 172 22 [l0, l1, l2] [v0] m Q ↔ AW d 172 25 [l0, l1, l2] [.int (-9999), v0] m Q := A_sipush hB_X11_ring dX11_ring_22 rfl
theorem dX11_ring_25 : decode cX11_ring 25 = .ok (.sipush 19999, 3) := by decide +kernel
theorem tX11_ring_25 {d : Nat} {l0 l1 l2 : Option Value} {v0 v1 : Value} {m : jmM} {Q : Option Value → jmM → Prop} : AW d 172 25 [l0, l1, l2] [v0, v1] m Q ↔ AW d 172 28 [l0, l1, l2] [.int 19999, v0, v1] m Q := A_sipush hB_X11_ring dX11_ring_25 rfl
theorem dX11_ring_28 : decode cX11_ring 28 = .ok (.invokestatic 128, 3) := by decide +kernel
theorem tX11_ring_28 {d : Nat} {l0 l1 l2 : Option Value} {y0 y1 y2 : Value} {m : jmM} {Q : Option Value → jmM → Prop} : AW d 172 28 [l0, l1, l2] [y0, y1, y2] m Q ↔ CC d 183 [y2, y1, y0] m (jK d 172 31 [l0, l1, l2] [] Q) := A_callS0 hB_X11_ring dX11_ring_28 hO_X11_ring fS_11_128 ⟨Nat.le_of_ble_eq_true rfl, Nat.le_of_ble_eq_true rfl⟩ rfl rfl
theorem dX11_ring_31 : decode cX11_ring 31 = .ok (.ifCond .ne 5, 3) := by decide +kernel
theorem tX11_ring_31 {d : Nat} {l0 l1 l2 : Option Value} {x : Int32} {m : jmM} {Q : Option Value → jmM → Prop} : AW d 172 31 [l0, l1, l2] [.int x] m Q ↔ if x = 0 then AW d 172 34 [l0, l1, l2] [] m Q else AW d 172 36 [l0, l1, l2] [] m Q := A_if_ne hB_X11_ring dX11_ring_31 (by decide)
theorem dX11_ring_34 : decode cX11_ring 34 = .ok (.iconst (-1), 1) := by decide +kernel
theorem tX11_ring_34 {d : Nat} {l0 l1 l2 : Option Value} {m : jmM} {Q : Option Value → jmM → Prop} : AW d 172 34 [l0, l1, l2] [] m Q ↔ AW d 172 35 [l0, l1, l2] [.int (-1)] m Q := A_iconst hB_X11_ring dX11_ring_34 (by decide)
theorem dX11_ring_35 : decode cX11_ring 35 = .ok (.ireturn, 1) := by decide +kernel
theorem tX11_ring_35 {d : Nat} {l0 l1 l2 : Option Value} {x : Int32} {m : jmM} {Q : Option Value → jmM → Prop} : AW d 172 35 [l0, l1, l2] [.int x] m Q ↔ Q (some (.int x)) m := A_ireturn hB_X11_ring dX11_ring_35 hR_X11_ring
theorem dX11_ring_36 : decode cX11_ring 36 = .ok (.aload_n 0, 1) := by decide +kernel
theorem tX11_ring_36 {d : Nat} {l1 l2 : Option Value} {x : Nat} {m : jmM} {Q : Option Value → jmM → Prop} : AW d 172 36 [some (.ref x), l1, l2] [] m Q ↔ AW d 172 37 [some (.ref x), l1, l2] [.ref x] m Q := A_aload_n hB_X11_ring dX11_ring_36 rfl
theorem dX11_ring_37 : decode cX11_ring 37 = .ok (.getfield 96, 3) := by decide +kernel
theorem tX11_ring_37 {d : Nat} {l0 l1 l2 : Option Value} {a : Nat} {m : jmM} {Q : Option Value → jmM → Prop} : AW d 172 37 [l0, l1, l2] [.ref a] m Q ↔ (mS m a).1 = 11 ∧ AW d 172 40 [l0, l1, l2] [va_rf (mR m a 16)] m Q := A_getfield (f := fun m a => va_rf (mR m a 16)) hB_X11_ring dX11_ring_37 hO_X11_ring fF_11_96 rfl
theorem dX11_ring_40 : decode cX11_ring 40 = .ok (.aload_n 0, 1) := by decide +kernel
theorem tX11_ring_40 {d : Nat} {l1 l2 : Option Value} {v0 : Value} {x : Nat} {m : jmM} {Q : Option Value → jmM → Prop} : AW d 172 40 [some (.ref x), l1, l2] [v0] m Q ↔ AW d 172 41 [some (.ref x), l1, l2] [.ref x, v0] m Q := A_aload_n hB_X11_ring dX11_ring_40 rfl
theorem dX11_ring_41 : decode cX11_ring 41 = .ok (.getfield 102, 3) := by decide +kernel
theorem tX11_ring_41 {d : Nat} {l0 l1 l2 : Option Value} {v1 : Value} {a : Nat} {m : jmM} {Q : Option Value → jmM → Prop} : AW d 172 41 [l0, l1, l2] [.ref a, v1] m Q ↔ (mS m a).1 = 11 ∧ AW d 172 44 [l0, l1, l2] [.int (mI m a 18), v1] m Q := A_getfield (f := fun m a => .int (mI m a 18)) hB_X11_ring dX11_ring_41 hO_X11_ring fF_11_102 rfl
theorem dX11_ring_44 : decode cX11_ring 44 = .ok (.iload_n 1, 1) := by decide +kernel
theorem tX11_ring_44 {d : Nat} {l0 l2 : Option Value} {v0 v1 : Value} {x : Int32} {m : jmM} {Q : Option Value → jmM → Prop} : AW d 172 44 [l0, some (.int x), l2] [v0, v1] m Q ↔ AW d 172 45 [l0, some (.int x), l2] [.int x, v0, v1] m Q := A_iload_n hB_X11_ring dX11_ring_44 rfl
theorem dX11_ring_45 : decode cX11_ring 45 = .ok (.iastore, 1) := by decide +kernel
theorem tX11_ring_45 {d : Nat} {l0 l1 l2 : Option Value} {x i : Int32} {a : Nat} {m : jmM} {Q : Option Value → jmM → Prop} : AW d 172 45 [l0, l1, l2] [.int x, .int i, .ref a] m Q ↔ ((mS m a).1 = 20 ∧ jIx i (mS m a).2) ∧ AW d 172 46 [l0, l1, l2] [] (cI m a (jup (mI m a) (jx i) x)) Q := A_iastore hB_X11_ring dX11_ring_45
theorem dX11_ring_46 : decode cX11_ring 46 = .ok (.aload_n 0, 1) := by decide +kernel
theorem tX11_ring_46 {d : Nat} {l1 l2 : Option Value} {x : Nat} {m : jmM} {Q : Option Value → jmM → Prop} : AW d 172 46 [some (.ref x), l1, l2] [] m Q ↔ AW d 172 47 [some (.ref x), l1, l2] [.ref x] m Q := A_aload_n hB_X11_ring dX11_ring_46 rfl
theorem dX11_ring_47 : decode cX11_ring 47 = .ok (.getfield 99, 3) := by decide +kernel
theorem tX11_ring_47 {d : Nat} {l0 l1 l2 : Option Value} {a : Nat} {m : jmM} {Q : Option Value → jmM → Prop} : AW d 172 47 [l0, l1, l2] [.ref a] m Q ↔ (mS m a).1 = 11 ∧ AW d 172 50 [l0, l1, l2] [va_rf (mR m a 17)] m Q := A_getfield (f := fun m a => va_rf (mR m a 17)) hB_X11_ring dX11_ring_47 hO_X11_ring fF_11_99 rfl
theorem dX11_ring_50 : decode cX11_ring 50 = .ok (.aload_n 0, 1) := by decide +kernel
theorem tX11_ring_50 {d : Nat} {l1 l2 : Option Value} {v0 : Value} {x : Nat} {m : jmM} {Q : Option Value → jmM → Prop} : AW d 172 50 [some (.ref x), l1, l2] [v0] m Q ↔ AW d 172 51 [some (.ref x), l1, l2] [.ref x, v0] m Q := A_aload_n hB_X11_ring dX11_ring_50 rfl
theorem dX11_ring_51 : decode cX11_ring 51 = .ok (.getfield 102, 3) := by decide +kernel
theorem tX11_ring_51 {d : Nat} {l0 l1 l2 : Option Value} {v1 : Value} {a : Nat} {m : jmM} {Q : Option Value → jmM → Prop} : AW d 172 51 [l0, l1, l2] [.ref a, v1] m Q ↔ (mS m a).1 = 11 ∧ AW d 172 54 [l0, l1, l2] [.int (mI m a 18), v1] m Q := A_getfield (f := fun m a => .int (mI m a 18)) hB_X11_ring dX11_ring_51 hO_X11_ring fF_11_102 rfl
theorem dX11_ring_54 : decode cX11_ring 54 = .ok (.iload_n 2, 1) := by decide +kernel
theorem tX11_ring_54 {d : Nat} {l0 l1 : Option Value} {v0 v1 : Value} {x : Int32} {m : jmM} {Q : Option Value → jmM → Prop} : AW d 172 54 [l0, l1, some (.int x)] [v0, v1] m Q ↔ AW d 172 55 [l0, l1, some (.int x)] [.int x, v0, v1] m Q := A_iload_n hB_X11_ring dX11_ring_54 rfl
theorem dX11_ring_55 : decode cX11_ring 55 = .ok (.iastore, 1) := by decide +kernel
theorem tX11_ring_55 {d : Nat} {l0 l1 l2 : Option Value} {x i : Int32} {a : Nat} {m : jmM} {Q : Option Value → jmM → Prop} : AW d 172 55 [l0, l1, l2] [.int x, .int i, .ref a] m Q ↔ ((mS m a).1 = 20 ∧ jIx i (mS m a).2) ∧ AW d 172 56 [l0, l1, l2] [] (cI m a (jup (mI m a) (jx i) x)) Q := A_iastore hB_X11_ring dX11_ring_55
theorem dX11_ring_56 : decode cX11_ring 56 = .ok (.aload_n 0, 1) := by decide +kernel
theorem tX11_ring_56 {d : Nat} {l1 l2 : Option Value} {x : Nat} {m : jmM} {Q : Option Value → jmM → Prop} : AW d 172 56 [some (.ref x), l1, l2] [] m Q ↔ AW d 172 57 [some (.ref x), l1, l2] [.ref x] m Q := A_aload_n hB_X11_ring dX11_ring_56 rfl
theorem dX11_ring_57 : decode cX11_ring 57 = .ok (.dup, 1) := by decide +kernel
theorem tX11_ring_57 {d : Nat} {l0 l1 l2 : Option Value} {x : Nat} {m : jmM} {Q : Option Value → jmM → Prop} : AW d 172 57 [l0, l1, l2] [.ref x] m Q ↔ AW d 172 58 [l0, l1, l2] [.ref x, .ref x] m Q := A_dup_a hB_X11_ring dX11_ring_57
theorem dX11_ring_58 : decode cX11_ring 58 = .ok (.getfield 102, 3) := by decide +kernel
theorem tX11_ring_58 {d : Nat} {l0 l1 l2 : Option Value} {v1 : Value} {a : Nat} {m : jmM} {Q : Option Value → jmM → Prop} : AW d 172 58 [l0, l1, l2] [.ref a, v1] m Q ↔ (mS m a).1 = 11 ∧ AW d 172 61 [l0, l1, l2] [.int (mI m a 18), v1] m Q := A_getfield (f := fun m a => .int (mI m a 18)) hB_X11_ring dX11_ring_58 hO_X11_ring fF_11_102 rfl
theorem dX11_ring_61 : decode cX11_ring 61 = .ok (.iconst 1, 1) := by decide +kernel
theorem tX11_ring_61 {d : Nat} {l0 l1 l2 : Option Value} {v0 v1 : Value} {m : jmM} {Q : Option Value → jmM → Prop} : AW d 172 61 [l0, l1, l2] [v0, v1] m Q ↔ AW d 172 62 [l0, l1, l2] [.int 1, v0, v1] m Q := A_iconst hB_X11_ring dX11_ring_61 (by decide)
theorem dX11_ring_62 : decode cX11_ring 62 = .ok (.iadd, 1) := by decide +kernel
theorem tX11_ring_62 {d : Nat} {l0 l1 l2 : Option Value} {v2 : Value} {x y : Int32} {m : jmM} {Q : Option Value → jmM → Prop} : AW d 172 62 [l0, l1, l2] [.int y, .int x, v2] m Q ↔ AW d 172 63 [l0, l1, l2] [.int (x + y), v2] m Q := A_iadd hB_X11_ring dX11_ring_62
theorem dX11_ring_63 : decode cX11_ring 63 = .ok (.putfield 102, 3) := by decide +kernel
theorem tX11_ring_63 {d : Nat} {l0 l1 l2 : Option Value} {x : Int32} {a : Nat} {m : jmM} {Q : Option Value → jmM → Prop} : AW d 172 63 [l0, l1, l2] [.int x, .ref a] m Q ↔ (mS m a).1 = 11 ∧ AW d 172 66 [l0, l1, l2] [] (cI m a (jup (mI m a) 18 x)) Q := A_putI hB_X11_ring dX11_ring_63 hO_X11_ring fF_11_102 rfl (fun h => Bool.noConfusion h)
theorem dX11_ring_66 : decode cX11_ring 66 = .ok (.aload_n 0, 1) := by decide +kernel
theorem tX11_ring_66 {d : Nat} {l1 l2 : Option Value} {x : Nat} {m : jmM} {Q : Option Value → jmM → Prop} : AW d 172 66 [some (.ref x), l1, l2] [] m Q ↔ AW d 172 67 [some (.ref x), l1, l2] [.ref x] m Q := A_aload_n hB_X11_ring dX11_ring_66 rfl
theorem dX11_ring_67 : decode cX11_ring 67 = .ok (.getfield 102, 3) := by decide +kernel
theorem tX11_ring_67 {d : Nat} {l0 l1 l2 : Option Value} {a : Nat} {m : jmM} {Q : Option Value → jmM → Prop} : AW d 172 67 [l0, l1, l2] [.ref a] m Q ↔ (mS m a).1 = 11 ∧ AW d 172 70 [l0, l1, l2] [.int (mI m a 18)] m Q := A_getfield (f := fun m a => .int (mI m a 18)) hB_X11_ring dX11_ring_67 hO_X11_ring fF_11_102 rfl
theorem dX11_ring_70 : decode cX11_ring 70 = .ok (.ireturn, 1) := by decide +kernel
theorem tX11_ring_70 {d : Nat} {l0 l1 l2 : Option Value} {x : Int32} {m : jmM} {Q : Option Value → jmM → Prop} : AW d 172 70 [l0, l1, l2] [.int x] m Q ↔ Q (some (.int x)) m := A_ireturn hB_X11_ring dX11_ring_70 hR_X11_ring
theorem hB_X11_awry : jB 173 = cX11_awry := rfl
theorem hO_X11_awry : jO 173 = 11 := rfl
theorem hR_X11_awry : jRt 173 = (some .int) := rfl
theorem nX11_awry (d : Nat) (x0 : Nat) (x1 : Int32) (x2 : Int32) (m : jmM) (Q : Option Value → jmM → Prop) : CC (d + 1) 173 [.ref x0, .int x1, .int x2] m Q ↔ AW d 173 0 [some (.ref x0), some (.int x1), some (.int x2), none, none, none, none] [] m Q := CC_body (Nat.le_of_ble_eq_true rfl)
theorem dX11_awry_0 : decode cX11_awry 0 = .ok (.iload_n 1, 1) := by decide +kernel
theorem tX11_awry_0 {d : Nat} {l0 l2 l3 l4 l5 l6 : Option Value} {x : Int32} {m : jmM} {Q : Option Value → jmM → Prop} : AW d 173 0 [l0, some (.int x), l2, l3, l4, l5, l6] [] m Q ↔ AW d 173 1 [l0, some (.int x), l2, l3, l4, l5, l6] [.int x] m Q := A_iload_n hB_X11_awry dX11_awry_0 rfl
theorem dX11_awry_1 : decode cX11_awry 1 = .ok (.iconst 0, 1) := by decide +kernel
theorem tX11_awry_1 {d : Nat} {l0 l1 l2 l3 l4 l5 l6 : Option Value} {v0 : Value} {m : jmM} {Q : Option Value → jmM → Prop} : AW d 173 1 [l0, l1, l2, l3, l4, l5, l6] [v0] m Q ↔ AW d 173 2 [l0, l1, l2, l3, l4, l5, l6] [.int 0, v0] m Q := A_iconst hB_X11_awry dX11_awry_1 (by decide)
theorem dX11_awry_2 : decode cX11_awry 2 = .ok (.sipush 9999, 3) := by decide +kernel
theorem tX11_awry_2 {d : Nat} {l0 l1 l2 l3 l4 l5 l6 : Option Value} {v0 v1 : Value} {m : jmM} {Q : Option Value → jmM → Prop} : AW d 173 2 [l0, l1, l2, l3, l4, l5, l6] [v0, v1] m Q ↔ AW d 173 5 [l0, l1, l2, l3, l4, l5, l6] [.int 9999, v0, v1] m Q := A_sipush hB_X11_awry dX11_awry_2 rfl
theorem dX11_awry_5 : decode cX11_awry 5 = .ok (.invokestatic 128, 3) := by decide +kernel
theorem tX11_awry_5 {d : Nat} {l0 l1 l2 l3 l4 l5 l6 : Option Value} {y0 y1 y2 : Value} {m : jmM} {Q : Option Value → jmM → Prop} : AW d 173 5 [l0, l1, l2, l3, l4, l5, l6] [y0, y1, y2] m Q ↔ CC d 183 [y2, y1, y0] m (jK d 173 8 [l0, l1, l2, l3, l4, l5, l6] [] Q) := A_callS0 hB_X11_awry dX11_awry_5 hO_X11_awry fS_11_128 ⟨Nat.le_of_ble_eq_true rfl, Nat.le_of_ble_eq_true rfl⟩ rfl rfl
theorem dX11_awry_8 : decode cX11_awry 8 = .ok (.ifCond .eq 12, 3) := by decide +kernel
theorem tX11_awry_8 {d : Nat} {l0 l1 l2 l3 l4 l5 l6 : Option Value} {x : Int32} {m : jmM} {Q : Option Value → jmM → Prop} : AW d 173 8 [l0, l1, l2, l3, l4, l5, l6] [.int x] m Q ↔ if x = 0 then AW d 173 20 [l0, l1, l2, l3, l4, l5, l6] [] m Q else AW d 173 11 [l0, l1, l2, l3, l4, l5, l6] [] m Q := A_if_eq hB_X11_awry dX11_awry_8 (by decide)
theorem dX11_awry_11 : decode cX11_awry 11 = .ok (.iload_n 2, 1) := by decide +kernel
theorem tX11_awry_11 {d : Nat} {l0 l1 l3 l4 l5 l6 : Option Value} {x : Int32} {m : jmM} {Q : Option Value → jmM → Prop} : AW d 173 11 [l0, l1, some (.int x), l3, l4, l5, l6] [] m Q ↔ AW d 173 12 [l0, l1, some (.int x), l3, l4, l5, l6] [.int x] m Q := A_iload_n hB_X11_awry dX11_awry_11 rfl
theorem dX11_awry_12 : decode cX11_awry 12 = .ok (.iconst 0, 1) := by decide +kernel
theorem tX11_awry_12 {d : Nat} {l0 l1 l2 l3 l4 l5 l6 : Option Value} {v0 : Value} {m : jmM} {Q : Option Value → jmM → Prop} : AW d 173 12 [l0, l1, l2, l3, l4, l5, l6] [v0] m Q ↔ AW d 173 13 [l0, l1, l2, l3, l4, l5, l6] [.int 0, v0] m Q := A_iconst hB_X11_awry dX11_awry_12 (by decide)
theorem dX11_awry_13 : decode cX11_awry 13 = .ok (.iconst 2, 1) := by decide +kernel
theorem tX11_awry_13 {d : Nat} {l0 l1 l2 l3 l4 l5 l6 : Option Value} {v0 v1 : Value} {m : jmM} {Q : Option Value → jmM → Prop} : AW d 173 13 [l0, l1, l2, l3, l4, l5, l6] [v0, v1] m Q ↔ AW d 173 14 [l0, l1, l2, l3, l4, l5, l6] [.int 2, v0, v1] m Q := A_iconst hB_X11_awry dX11_awry_13 (by decide)
theorem dX11_awry_14 : decode cX11_awry 14 = .ok (.invokestatic 128, 3) := by decide +kernel
theorem tX11_awry_14 {d : Nat} {l0 l1 l2 l3 l4 l5 l6 : Option Value} {y0 y1 y2 : Value} {m : jmM} {Q : Option Value → jmM → Prop} : AW d 173 14 [l0, l1, l2, l3, l4, l5, l6] [y0, y1, y2] m Q ↔ CC d 183 [y2, y1, y0] m (jK d 173 17 [l0, l1, l2, l3, l4, l5, l6] [] Q) := A_callS0 hB_X11_awry dX11_awry_14 hO_X11_awry fS_11_128 ⟨Nat.le_of_ble_eq_true rfl, Nat.le_of_ble_eq_true rfl⟩ rfl rfl
theorem dX11_awry_17 : decode cX11_awry 17 = .ok (.ifCond .ne 7, 3) := by decide +kernel
theorem tX11_awry_17 {d : Nat} {l0 l1 l2 l3 l4 l5 l6 : Option Value} {x : Int32} {m : jmM} {Q : Option Value → jmM → Prop} : AW d 173 17 [l0, l1, l2, l3, l4, l5, l6] [.int x] m Q ↔ if x = 0 then AW d 173 20 [l0, l1, l2, l3, l4, l5, l6] [] m Q else AW d 173 24 [l0, l1, l2, l3, l4, l5, l6] [] m Q := A_if_ne hB_X11_awry dX11_awry_17 (by decide)
theorem dX11_awry_20 : decode cX11_awry 20 = .ok (.sipush (-2000), 3) := by decide +kernel
theorem tX11_awry_20 {d : Nat} {l0 l1 l2 l3 l4 l5 l6 : Option Value} {m : jmM} {Q : Option Value → jmM → Prop} : AW d 173 20 [l0, l1, l2, l3, l4, l5, l6] [] m Q ↔ AW d 173 23 [l0, l1, l2, l3, l4, l5, l6] [.int (-2000)] m Q := A_sipush hB_X11_awry dX11_awry_20 rfl
theorem dX11_awry_23 : decode cX11_awry 23 = .ok (.ireturn, 1) := by decide +kernel
theorem tX11_awry_23 {d : Nat} {l0 l1 l2 l3 l4 l5 l6 : Option Value} {x : Int32} {m : jmM} {Q : Option Value → jmM → Prop} : AW d 173 23 [l0, l1, l2, l3, l4, l5, l6] [.int x] m Q ↔ Q (some (.int x)) m := A_ireturn hB_X11_awry dX11_awry_23 hR_X11_awry
theorem dX11_awry_24 : decode cX11_awry 24 = .ok (.sipush (-500), 3) := by decide +kernel
theorem tX11_awry_24 {d : Nat} {l0 l1 l2 l3 l4 l5 l6 : Option Value} {m : jmM} {Q : Option Value → jmM → Prop} : AW d 173 24 [l0, l1, l2, l3, l4, l5, l6] [] m Q ↔ AW d 173 27 [l0, l1, l2, l3, l4, l5, l6] [.int (-500)] m Q := A_sipush hB_X11_awry dX11_awry_24 rfl
theorem dX11_awry_27 : decode cX11_awry 27 = .ok (.istore_n 3, 1) := by decide +kernel
theorem tX11_awry_27 {d : Nat} {l0 l1 l2 l3 l4 l5 l6 : Option Value} {x : Int32} {m : jmM} {Q : Option Value → jmM → Prop} : AW d 173 27 [l0, l1, l2, l3, l4, l5, l6] [.int x] m Q ↔ AW d 173 28 [l0, l1, jc1 l2, some (.int x), l4, l5, l6] [] m Q := A_istore_n hB_X11_awry dX11_awry_27 (Nat.le_of_ble_eq_true rfl) rfl
theorem dX11_awry_28 : decode cX11_awry 28 = .ok (.sipush 500, 3) := by decide +kernel
theorem tX11_awry_28 {d : Nat} {l0 l1 l2 l3 l4 l5 l6 : Option Value} {m : jmM} {Q : Option Value → jmM → Prop} : AW d 173 28 [l0, l1, l2, l3, l4, l5, l6] [] m Q ↔ AW d 173 31 [l0, l1, l2, l3, l4, l5, l6] [.int 500] m Q := A_sipush hB_X11_awry dX11_awry_28 rfl
theorem dX11_awry_31 : decode cX11_awry 31 = .ok (.istore 4, 2) := by decide +kernel
theorem tX11_awry_31 {d : Nat} {l0 l1 l2 l3 l4 l5 l6 : Option Value} {x : Int32} {m : jmM} {Q : Option Value → jmM → Prop} : AW d 173 31 [l0, l1, l2, l3, l4, l5, l6] [.int x] m Q ↔ AW d 173 33 [l0, l1, l2, jc1 l3, some (.int x), l5, l6] [] m Q := A_istore hB_X11_awry dX11_awry_31 (Nat.le_of_ble_eq_true rfl) rfl
theorem dX11_awry_33 : decode cX11_awry 33 = .ok (.iconst 0, 1) := by decide +kernel
theorem tX11_awry_33 {d : Nat} {l0 l1 l2 l3 l4 l5 l6 : Option Value} {m : jmM} {Q : Option Value → jmM → Prop} : AW d 173 33 [l0, l1, l2, l3, l4, l5, l6] [] m Q ↔ AW d 173 34 [l0, l1, l2, l3, l4, l5, l6] [.int 0] m Q := A_iconst hB_X11_awry dX11_awry_33 (by decide)
theorem dX11_awry_34 : decode cX11_awry 34 = .ok (.istore 5, 2) := by decide +kernel
theorem tX11_awry_34 {d : Nat} {l0 l1 l2 l3 l4 l5 l6 : Option Value} {x : Int32} {m : jmM} {Q : Option Value → jmM → Prop} : AW d 173 34 [l0, l1, l2, l3, l4, l5, l6] [.int x] m Q ↔ AW d 173 36 [l0, l1, l2, l3, jc1 l4, some (.int x), l6] [] m Q := A_istore hB_X11_awry dX11_awry_34 (Nat.le_of_ble_eq_true rfl) rfl
theorem dX11_awry_36 : decode cX11_awry 36 = .ok (.iload 5, 2) := by decide +kernel
theorem tX11_awry_36 {d : Nat} {l0 l1 l2 l3 l4 l6 : Option Value} {x : Int32} {m : jmM} {Q : Option Value → jmM → Prop} : AW d 173 36 [l0, l1, l2, l3, l4, some (.int x), l6] [] m Q ↔ AW d 173 38 [l0, l1, l2, l3, l4, some (.int x), l6] [.int x] m Q := A_iload hB_X11_awry dX11_awry_36 rfl
theorem dX11_awry_38 : decode cX11_awry 38 = .ok (.aload_n 0, 1) := by decide +kernel
theorem tX11_awry_38 {d : Nat} {l1 l2 l3 l4 l5 l6 : Option Value} {v0 : Value} {x : Nat} {m : jmM} {Q : Option Value → jmM → Prop} : AW d 173 38 [some (.ref x), l1, l2, l3, l4, l5, l6] [v0] m Q ↔ AW d 173 39 [some (.ref x), l1, l2, l3, l4, l5, l6] [.ref x, v0] m Q := A_aload_n hB_X11_awry dX11_awry_38 rfl
theorem dX11_awry_39 : decode cX11_awry 39 = .ok (.getfield 102, 3) := by decide +kernel
theorem tX11_awry_39 {d : Nat} {l0 l1 l2 l3 l4 l5 l6 : Option Value} {v1 : Value} {a : Nat} {m : jmM} {Q : Option Value → jmM → Prop} : AW d 173 39 [l0, l1, l2, l3, l4, l5, l6] [.ref a, v1] m Q ↔ (mS m a).1 = 11 ∧ AW d 173 42 [l0, l1, l2, l3, l4, l5, l6] [.int (mI m a 18), v1] m Q := A_getfield (f := fun m a => .int (mI m a 18)) hB_X11_awry dX11_awry_39 hO_X11_awry fF_11_102 rfl
theorem dX11_awry_42 : decode cX11_awry 42 = .ok (.if_icmp .ge 78, 3) := by decide +kernel
theorem tX11_awry_42 {d : Nat} {l0 l1 l2 l3 l4 l5 l6 : Option Value} {x y : Int32} {m : jmM} {Q : Option Value → jmM → Prop} : AW d 173 42 [l0, l1, l2, l3, l4, l5, l6] [.int y, .int x] m Q ↔ if y ≤ x then AW d 173 120 [l0, l1, l2, l3, l4, l5, l6] [] m Q else AW d 173 45 [l0, l1, l2, l3, l4, l5, l6] [] m Q := A_icmp_ge hB_X11_awry dX11_awry_42 (by decide)
theorem dX11_awry_45 : decode cX11_awry 45 = .ok (.iload 5, 2) := by decide +kernel
theorem tX11_awry_45 {d : Nat} {l0 l1 l2 l3 l4 l6 : Option Value} {x : Int32} {m : jmM} {Q : Option Value → jmM → Prop} : AW d 173 45 [l0, l1, l2, l3, l4, some (.int x), l6] [] m Q ↔ AW d 173 47 [l0, l1, l2, l3, l4, some (.int x), l6] [.int x] m Q := A_iload hB_X11_awry dX11_awry_45 rfl
theorem dX11_awry_47 : decode cX11_awry 47 = .ok (.sipush 200, 3) := by decide +kernel
theorem tX11_awry_47 {d : Nat} {l0 l1 l2 l3 l4 l5 l6 : Option Value} {v0 : Value} {m : jmM} {Q : Option Value → jmM → Prop} : AW d 173 47 [l0, l1, l2, l3, l4, l5, l6] [v0] m Q ↔ AW d 173 50 [l0, l1, l2, l3, l4, l5, l6] [.int 200, v0] m Q := A_sipush hB_X11_awry dX11_awry_47 rfl
theorem dX11_awry_50 : decode cX11_awry 50 = .ok (.if_icmp .ge 70, 3) := by decide +kernel
theorem tX11_awry_50 {d : Nat} {l0 l1 l2 l3 l4 l5 l6 : Option Value} {x y : Int32} {m : jmM} {Q : Option Value → jmM → Prop} : AW d 173 50 [l0, l1, l2, l3, l4, l5, l6] [.int y, .int x] m Q ↔ if y ≤ x then AW d 173 120 [l0, l1, l2, l3, l4, l5, l6] [] m Q else AW d 173 53 [l0, l1, l2, l3, l4, l5, l6] [] m Q := A_icmp_ge hB_X11_awry dX11_awry_50 (by decide)
theorem dX11_awry_53 : decode cX11_awry 53 = .ok (.aload_n 0, 1) := by decide +kernel
theorem tX11_awry_53 {d : Nat} {l1 l2 l3 l4 l5 l6 : Option Value} {x : Nat} {m : jmM} {Q : Option Value → jmM → Prop} : AW d 173 53 [some (.ref x), l1, l2, l3, l4, l5, l6] [] m Q ↔ AW d 173 54 [some (.ref x), l1, l2, l3, l4, l5, l6] [.ref x] m Q := A_aload_n hB_X11_awry dX11_awry_53 rfl
theorem dX11_awry_54 : decode cX11_awry 54 = .ok (.getfield 56, 3) := by decide +kernel
theorem tX11_awry_54 {d : Nat} {l0 l1 l2 l3 l4 l5 l6 : Option Value} {a : Nat} {m : jmM} {Q : Option Value → jmM → Prop} : AW d 173 54 [l0, l1, l2, l3, l4, l5, l6] [.ref a] m Q ↔ (mS m a).1 = 11 ∧ AW d 173 57 [l0, l1, l2, l3, l4, l5, l6] [va_rf (mR m a 8)] m Q := A_getfield (f := fun m a => va_rf (mR m a 8)) hB_X11_awry dX11_awry_54 hO_X11_awry fF_11_56 rfl
theorem dX11_awry_57 : decode cX11_awry 57 = .ok (.aload_n 0, 1) := by decide +kernel
theorem tX11_awry_57 {d : Nat} {l1 l2 l3 l4 l5 l6 : Option Value} {v0 : Value} {x : Nat} {m : jmM} {Q : Option Value → jmM → Prop} : AW d 173 57 [some (.ref x), l1, l2, l3, l4, l5, l6] [v0] m Q ↔ AW d 173 58 [some (.ref x), l1, l2, l3, l4, l5, l6] [.ref x, v0] m Q := A_aload_n hB_X11_awry dX11_awry_57 rfl
theorem dX11_awry_58 : decode cX11_awry 58 = .ok (.getfield 96, 3) := by decide +kernel
theorem tX11_awry_58 {d : Nat} {l0 l1 l2 l3 l4 l5 l6 : Option Value} {v1 : Value} {a : Nat} {m : jmM} {Q : Option Value → jmM → Prop} : AW d 173 58 [l0, l1, l2, l3, l4, l5, l6] [.ref a, v1] m Q ↔ (mS m a).1 = 11 ∧ AW d 173 61 [l0, l1, l2, l3, l4, l5, l6] [va_rf (mR m a 16), v1] m Q := A_getfield (f := fun m a => va_rf (mR m a 16)) hB_X11_awry dX11_awry_58 hO_X11_awry fF_11_96 rfl
theorem dX11_awry_61 : decode cX11_awry 61 = .ok (.iload 5, 2) := by decide +kernel
theorem tX11_awry_61 {d : Nat} {l0 l1 l2 l3 l4 l6 : Option Value} {v0 v1 : Value} {x : Int32} {m : jmM} {Q : Option Value → jmM → Prop} : AW d 173 61 [l0, l1, l2, l3, l4, some (.int x), l6] [v0, v1] m Q ↔ AW d 173 63 [l0, l1, l2, l3, l4, some (.int x), l6] [.int x, v0, v1] m Q := A_iload hB_X11_awry dX11_awry_61 rfl
theorem dX11_awry_63 : decode cX11_awry 63 = .ok (.iaload, 1) := by decide +kernel
theorem tX11_awry_63 {d : Nat} {l0 l1 l2 l3 l4 l5 l6 : Option Value} {v2 : Value} {i : Int32} {a : Nat} {m : jmM} {Q : Option Value → jmM → Prop} : AW d 173 63 [l0, l1, l2, l3, l4, l5, l6] [.int i, .ref a, v2] m Q ↔ (((mS m a).1 = 20 ∨ a = jScr) ∧ jIx i (mS m a).2) ∧ AW d 173 64 [l0, l1, l2, l3, l4, l5, l6] [.int (mI m a (jx i)), v2] m Q := A_iaload hB_X11_awry dX11_awry_63
theorem dX11_awry_64 : decode cX11_awry 64 = .ok (.invokevirtual 193, 3) := by decide +kernel
theorem tX11_awry_64 {d : Nat} {l0 l1 l2 l3 l4 l5 l6 : Option Value} {y0 : Value} {a : Nat} {m : jmM} {Q : Option Value → jmM → Prop} : AW d 173 64 [l0, l1, l2, l3, l4, l5, l6] [y0, .ref a] m Q ↔ (mS m a).1 = 5 ∧ CC d 72 [.ref a, y0] m (jK d 173 67 [l0, l1, l2, l3, l4, l5, l6] [] Q) := A_callV hB_X11_awry dX11_awry_64 hO_X11_awry fS_11_193 ⟨Nat.le_of_ble_eq_true rfl, Nat.le_of_ble_eq_true rfl⟩ rfl rfl rfl
theorem dX11_awry_67 : decode cX11_awry 67 = .ok (.ifCond .eq 47, 3) := by decide +kernel
theorem tX11_awry_67 {d : Nat} {l0 l1 l2 l3 l4 l5 l6 : Option Value} {x : Int32} {m : jmM} {Q : Option Value → jmM → Prop} : AW d 173 67 [l0, l1, l2, l3, l4, l5, l6] [.int x] m Q ↔ if x = 0 then AW d 173 114 [l0, l1, l2, l3, l4, l5, l6] [] m Q else AW d 173 70 [l0, l1, l2, l3, l4, l5, l6] [] m Q := A_if_eq hB_X11_awry dX11_awry_67 (by decide)
theorem dX11_awry_70 : decode cX11_awry 70 = .ok (.aload_n 0, 1) := by decide +kernel
theorem tX11_awry_70 {d : Nat} {l1 l2 l3 l4 l5 l6 : Option Value} {x : Nat} {m : jmM} {Q : Option Value → jmM → Prop} : AW d 173 70 [some (.ref x), l1, l2, l3, l4, l5, l6] [] m Q ↔ AW d 173 71 [some (.ref x), l1, l2, l3, l4, l5, l6] [.ref x] m Q := A_aload_n hB_X11_awry dX11_awry_70 rfl
theorem dX11_awry_71 : decode cX11_awry 71 = .ok (.getfield 99, 3) := by decide +kernel
theorem tX11_awry_71 {d : Nat} {l0 l1 l2 l3 l4 l5 l6 : Option Value} {a : Nat} {m : jmM} {Q : Option Value → jmM → Prop} : AW d 173 71 [l0, l1, l2, l3, l4, l5, l6] [.ref a] m Q ↔ (mS m a).1 = 11 ∧ AW d 173 74 [l0, l1, l2, l3, l4, l5, l6] [va_rf (mR m a 17)] m Q := A_getfield (f := fun m a => va_rf (mR m a 17)) hB_X11_awry dX11_awry_71 hO_X11_awry fF_11_99 rfl
theorem dX11_awry_74 : decode cX11_awry 74 = .ok (.iload 5, 2) := by decide +kernel
theorem tX11_awry_74 {d : Nat} {l0 l1 l2 l3 l4 l6 : Option Value} {v0 : Value} {x : Int32} {m : jmM} {Q : Option Value → jmM → Prop} : AW d 173 74 [l0, l1, l2, l3, l4, some (.int x), l6] [v0] m Q ↔ AW d 173 76 [l0, l1, l2, l3, l4, some (.int x), l6] [.int x, v0] m Q := A_iload hB_X11_awry dX11_awry_74 rfl
theorem dX11_awry_76 : decode cX11_awry 76 = .ok (.iaload, 1) := by decide +kernel
theorem tX11_awry_76 {d : Nat} {l0 l1 l2 l3 l4 l5 l6 : Option Value} {i : Int32} {a : Nat} {m : jmM} {Q : Option Value → jmM → Prop} : AW d 173 76 [l0, l1, l2, l3, l4, l5, l6] [.int i, .ref a] m Q ↔ (((mS m a).1 = 20 ∨ a = jScr) ∧ jIx i (mS m a).2) ∧ AW d 173 77 [l0, l1, l2, l3, l4, l5, l6] [.int (mI m a (jx i))] m Q := A_iaload hB_X11_awry dX11_awry_76
theorem dX11_awry_77 : decode cX11_awry 77 = .ok (.aload_n 0, 1) := by decide +kernel
theorem tX11_awry_77 {d : Nat} {l1 l2 l3 l4 l5 l6 : Option Value} {v0 : Value} {x : Nat} {m : jmM} {Q : Option Value → jmM → Prop} : AW d 173 77 [some (.ref x), l1, l2, l3, l4, l5, l6] [v0] m Q ↔ AW d 173 78 [some (.ref x), l1, l2, l3, l4, l5, l6] [.ref x, v0] m Q := A_aload_n hB_X11_awry dX11_awry_77 rfl
theorem dX11_awry_78 : decode cX11_awry 78 = .ok (.getfield 56, 3) := by decide +kernel
theorem tX11_awry_78 {d : Nat} {l0 l1 l2 l3 l4 l5 l6 : Option Value} {v1 : Value} {a : Nat} {m : jmM} {Q : Option Value → jmM → Prop} : AW d 173 78 [l0, l1, l2, l3, l4, l5, l6] [.ref a, v1] m Q ↔ (mS m a).1 = 11 ∧ AW d 173 81 [l0, l1, l2, l3, l4, l5, l6] [va_rf (mR m a 8), v1] m Q := A_getfield (f := fun m a => va_rf (mR m a 8)) hB_X11_awry dX11_awry_78 hO_X11_awry fF_11_56 rfl
theorem dX11_awry_81 : decode cX11_awry 81 = .ok (.aload_n 0, 1) := by decide +kernel
theorem tX11_awry_81 {d : Nat} {l1 l2 l3 l4 l5 l6 : Option Value} {v0 v1 : Value} {x : Nat} {m : jmM} {Q : Option Value → jmM → Prop} : AW d 173 81 [some (.ref x), l1, l2, l3, l4, l5, l6] [v0, v1] m Q ↔ AW d 173 82 [some (.ref x), l1, l2, l3, l4, l5, l6] [.ref x, v0, v1] m Q := A_aload_n hB_X11_awry dX11_awry_81 rfl
theorem dX11_awry_82 : decode cX11_awry 82 = .ok (.getfield 96, 3) := by decide +kernel
theorem tX11_awry_82 {d : Nat} {l0 l1 l2 l3 l4 l5 l6 : Option Value} {v1 v2 : Value} {a : Nat} {m : jmM} {Q : Option Value → jmM → Prop} : AW d 173 82 [l0, l1, l2, l3, l4, l5, l6] [.ref a, v1, v2] m Q ↔ (mS m a).1 = 11 ∧ AW d 173 85 [l0, l1, l2, l3, l4, l5, l6] [va_rf (mR m a 16), v1, v2] m Q := A_getfield (f := fun m a => va_rf (mR m a 16)) hB_X11_awry dX11_awry_82 hO_X11_awry fF_11_96 rfl
theorem dX11_awry_85 : decode cX11_awry 85 = .ok (.iload 5, 2) := by decide +kernel
theorem tX11_awry_85 {d : Nat} {l0 l1 l2 l3 l4 l6 : Option Value} {v0 v1 v2 : Value} {x : Int32} {m : jmM} {Q : Option Value → jmM → Prop} : AW d 173 85 [l0, l1, l2, l3, l4, some (.int x), l6] [v0, v1, v2] m Q ↔ AW d 173 87 [l0, l1, l2, l3, l4, some (.int x), l6] [.int x, v0, v1, v2] m Q := A_iload hB_X11_awry dX11_awry_85 rfl
theorem dX11_awry_87 : decode cX11_awry 87 = .ok (.iaload, 1) := by decide +kernel
theorem tX11_awry_87 {d : Nat} {l0 l1 l2 l3 l4 l5 l6 : Option Value} {v2 v3 : Value} {i : Int32} {a : Nat} {m : jmM} {Q : Option Value → jmM → Prop} : AW d 173 87 [l0, l1, l2, l3, l4, l5, l6] [.int i, .ref a, v2, v3] m Q ↔ (((mS m a).1 = 20 ∨ a = jScr) ∧ jIx i (mS m a).2) ∧ AW d 173 88 [l0, l1, l2, l3, l4, l5, l6] [.int (mI m a (jx i)), v2, v3] m Q := A_iaload hB_X11_awry dX11_awry_87
theorem dX11_awry_88 : decode cX11_awry 88 = .ok (.invokevirtual 196, 3) := by decide +kernel
theorem tX11_awry_88 {d : Nat} {l0 l1 l2 l3 l4 l5 l6 : Option Value} {v2 : Value} {y0 : Value} {a : Nat} {m : jmM} {Q : Option Value → jmM → Prop} : AW d 173 88 [l0, l1, l2, l3, l4, l5, l6] [y0, .ref a, v2] m Q ↔ (mS m a).1 = 5 ∧ CC d 81 [.ref a, y0] m (jK d 173 91 [l0, l1, l2, l3, l4, l5, l6] [v2] Q) := A_callV hB_X11_awry dX11_awry_88 hO_X11_awry fS_11_196 ⟨Nat.le_of_ble_eq_true rfl, Nat.le_of_ble_eq_true rfl⟩ rfl rfl rfl
theorem dX11_awry_91 : decode cX11_awry 91 = .ok (.isub, 1) := by decide +kernel
theorem tX11_awry_91 {d : Nat} {l0 l1 l2 l3 l4 l5 l6 : Option Value} {x y : Int32} {m : jmM} {Q : Option Value → jmM → Prop} : AW d 173 91 [l0, l1, l2, l3, l4, l5, l6] [.int y, .int x] m Q ↔ AW d 173 92 [l0, l1, l2, l3, l4, l5, l6] [.int (x - y)] m Q := A_isub hB_X11_awry dX11_awry_91
theorem dX11_awry_92 : decode cX11_awry 92 = .ok (.istore 6, 2) := by decide +kernel
theorem tX11_awry_92 {d : Nat} {l0 l1 l2 l3 l4 l5 l6 : Option Value} {x : Int32} {m : jmM} {Q : Option Value → jmM → Prop} : AW d 173 92 [l0, l1, l2, l3, l4, l5, l6] [.int x] m Q ↔ AW d 173 94 [l0, l1, l2, l3, l4, jc1 l5, some (.int x)] [] m Q := A_istore hB_X11_awry dX11_awry_92 (Nat.le_of_ble_eq_true rfl) rfl
theorem dX11_awry_94 : decode cX11_awry 94 = .ok (.iload_n 3, 1) := by decide +kernel
theorem tX11_awry_94 {d : Nat} {l0 l1 l2 l4 l5 l6 : Option Value} {x : Int32} {m : jmM} {Q : Option Value → jmM → Prop} : AW d 173 94 [l0, l1, l2, some (.int x), l4, l5, l6] [] m Q ↔ AW d 173 95 [l0, l1, l2, some (.int x), l4, l5, l6] [.int x] m Q := A_iload_n hB_X11_awry dX11_awry_94 rfl
theorem dX11_awry_95 : decode cX11_awry 95 = .ok (.iload 6, 2) := by decide +kernel
theorem tX11_awry_95 {d : Nat} {l0 l1 l2 l3 l4 l5 : Option Value} {v0 : Value} {x : Int32} {m : jmM} {Q : Option Value → jmM → Prop} : AW d 173 95 [l0, l1, l2, l3, l4, l5, some (.int x)] [v0] m Q ↔ AW d 173 97 [l0, l1, l2, l3, l4, l5, some (.int x)] [.int x, v0] m Q := A_iload hB_X11_awry dX11_awry_95 rfl
theorem dX11_awry_97 : decode cX11_awry 97 = .ok (.iload_n 1, 1) := by decide +kernel
theorem tX11_awry_97 {d : Nat} {l0 l2 l3 l4 l5 l6 : Option Value} {v0 v1 : Value} {x : Int32} {m : jmM} {Q : Option Value → jmM → Prop} : AW d 173 97 [l0, some (.int x), l2, l3, l4, l5, l6] [v0, v1] m Q ↔ AW d 173 98 [l0, some (.int x), l2, l3, l4, l5, l6] [.int x, v0, v1] m Q := A_iload_n hB_X11_awry dX11_awry_97 rfl
theorem dX11_awry_98 : decode cX11_awry 98 = .ok (.isub, 1) := by decide +kernel
theorem tX11_awry_98 {d : Nat} {l0 l1 l2 l3 l4 l5 l6 : Option Value} {v2 : Value} {x y : Int32} {m : jmM} {Q : Option Value → jmM → Prop} : AW d 173 98 [l0, l1, l2, l3, l4, l5, l6] [.int y, .int x, v2] m Q ↔ AW d 173 99 [l0, l1, l2, l3, l4, l5, l6] [.int (x - y), v2] m Q := A_isub hB_X11_awry dX11_awry_98
theorem dX11_awry_99 : decode cX11_awry 99 = .ok (.invokestatic 327, 3) := by decide +kernel
theorem tX11_awry_99 {d : Nat} {l0 l1 l2 l3 l4 l5 l6 : Option Value} {x y : Int32} {m : jmM} {Q : Option Value → jmM → Prop} : AW d 173 99 [l0, l1, l2, l3, l4, l5, l6] [.int y, .int x] m Q ↔ AW d 173 102 [l0, l1, l2, l3, l4, l5, l6] [.int (if x < y then y else x)] m Q := A_max hB_X11_awry dX11_awry_99 hO_X11_awry fS_11_327 (Nat.le_of_ble_eq_true rfl)
theorem dX11_awry_102 : decode cX11_awry 102 = .ok (.istore_n 3, 1) := by decide +kernel
theorem tX11_awry_102 {d : Nat} {l0 l1 l2 l3 l4 l5 l6 : Option Value} {x : Int32} {m : jmM} {Q : Option Value → jmM → Prop} : AW d 173 102 [l0, l1, l2, l3, l4, l5, l6] [.int x] m Q ↔ AW d 173 103 [l0, l1, jc1 l2, some (.int x), l4, l5, l6] [] m Q := A_istore_n hB_X11_awry dX11_awry_102 (Nat.le_of_ble_eq_true rfl) rfl
theorem dX11_awry_103 : decode cX11_awry 103 = .ok (.iload 4, 2) := by decide +kernel
theorem tX11_awry_103 {d : Nat} {l0 l1 l2 l3 l5 l6 : Option Value} {x : Int32} {m : jmM} {Q : Option Value → jmM → Prop} : AW d 173 103 [l0, l1, l2, l3, some (.int x), l5, l6] [] m Q ↔ AW d 173 105 [l0, l1, l2, l3, some (.int x), l5, l6] [.int x] m Q := A_iload hB_X11_awry dX11_awry_103 rfl
theorem dX11_awry_105 : decode cX11_awry 105 = .ok (.iload 6, 2) := by decide +kernel
theorem tX11_awry_105 {d : Nat} {l0 l1 l2 l3 l4 l5 : Option Value} {v0 : Value} {x : Int32} {m : jmM} {Q : Option Value → jmM → Prop} : AW d 173 105 [l0, l1, l2, l3, l4, l5, some (.int x)] [v0] m Q ↔ AW d 173 107 [l0, l1, l2, l3, l4, l5, some (.int x)] [.int x, v0] m Q := A_iload hB_X11_awry dX11_awry_105 rfl
theorem dX11_awry_107 : decode cX11_awry 107 = .ok (.iload_n 1, 1) := by decide +kernel
theorem tX11_awry_107 {d : Nat} {l0 l2 l3 l4 l5 l6 : Option Value} {v0 v1 : Value} {x : Int32} {m : jmM} {Q : Option Value → jmM → Prop} : AW d 173 107 [l0, some (.int x), l2, l3, l4, l5, l6] [v0, v1] m Q ↔ AW d 173 108 [l0, some (.int x), l2, l3, l4, l5, l6] [.int x, v0, v1] m Q := A_iload_n hB_X11_awry dX11_awry_107 rfl
theorem dX11_awry_108 : decode cX11_awry 108 = .ok (.iadd, 1) := by decide +kernel
theorem tX11_awry_108 {d : Nat} {l0 l1 l2 l3 l4 l5 l6 : Option Value} {v2 : Value} {x y : Int32} {m : jmM} {Q : Option Value → jmM → Prop} : AW d 173 108 [l0, l1, l2, l3, l4, l5, l6] [.int y, .int x, v2] m Q ↔ AW d 173 109 [l0, l1, l2, l3, l4, l5, l6] [.int (x + y), v2] m Q := A_iadd hB_X11_awry dX11_awry_108
theorem dX11_awry_109 : decode cX11_awry 109 = .ok (.invokestatic 330, 3) := by decide +kernel
theorem tX11_awry_109 {d : Nat} {l0 l1 l2 l3 l4 l5 l6 : Option Value} {x y : Int32} {m : jmM} {Q : Option Value → jmM → Prop} : AW d 173 109 [l0, l1, l2, l3, l4, l5, l6] [.int y, .int x] m Q ↔ AW d 173 112 [l0, l1, l2, l3, l4, l5, l6] [.int (if y < x then y else x)] m Q := A_min hB_X11_awry dX11_awry_109 hO_X11_awry fS_11_330 (Nat.le_of_ble_eq_true rfl)
theorem dX11_awry_112 : decode cX11_awry 112 = .ok (.istore 4, 2) := by decide +kernel
theorem tX11_awry_112 {d : Nat} {l0 l1 l2 l3 l4 l5 l6 : Option Value} {x : Int32} {m : jmM} {Q : Option Value → jmM → Prop} : AW d 173 112 [l0, l1, l2, l3, l4, l5, l6] [.int x] m Q ↔ AW d 173 114 [l0, l1, l2, jc1 l3, some (.int x), l5, l6] [] m Q := A_istore hB_X11_awry dX11_awry_112 (Nat.le_of_ble_eq_true rfl) rfl
theorem dX11_awry_114 : decode cX11_awry 114 = .ok (.iinc 5 1, 3) := by decide +kernel
theorem tX11_awry_114 {d : Nat} {l0 l1 l2 l3 l4 l6 : Option Value} {x : Int32} {m : jmM} {Q : Option Value → jmM → Prop} : AW d 173 114 [l0, l1, l2, l3, l4, some (.int x), l6] [] m Q ↔ AW d 173 117 [l0, l1, l2, l3, jc1 l4, some (.int (x + 1)), l6] [] m Q := A_iinc hB_X11_awry dX11_awry_114 rfl (Nat.le_of_ble_eq_true rfl) (v := 1) (by decide) rfl
theorem dX11_awry_117 : decode cX11_awry 117 = .ok (.goto (-81), 3) := by decide +kernel
theorem tX11_awry_117 {d : Nat} {l0 l1 l2 l3 l4 l5 l6 : Option Value} {m : jmM} {Q : Option Value → jmM → Prop} : AW d 173 117 [l0, l1, l2, l3, l4, l5, l6] [] m Q ↔ AW d 173 36 [l0, l1, l2, l3, l4, l5, l6] [] m Q := A_goto hB_X11_awry dX11_awry_117 (by decide)
theorem dX11_awry_120 : decode cX11_awry 120 = .ok (.iload_n 2, 1) := by decide +kernel
theorem tX11_awry_120 {d : Nat} {l0 l1 l3 l4 l5 l6 : Option Value} {x : Int32} {m : jmM} {Q : Option Value → jmM → Prop} : AW d 173 120 [l0, l1, some (.int x), l3, l4, l5, l6] [] m Q ↔ AW d 173 121 [l0, l1, some (.int x), l3, l4, l5, l6] [.int x] m Q := A_iload_n hB_X11_awry dX11_awry_120 rfl
theorem dX11_awry_121 : decode cX11_awry 121 = .ok (.iconst 2, 1) := by decide +kernel
theorem tX11_awry_121 {d : Nat} {l0 l1 l2 l3 l4 l5 l6 : Option Value} {v0 : Value} {m : jmM} {Q : Option Value → jmM → Prop} : AW d 173 121 [l0, l1, l2, l3, l4, l5, l6] [v0] m Q ↔ AW d 173 122 [l0, l1, l2, l3, l4, l5, l6] [.int 2, v0] m Q := A_iconst hB_X11_awry dX11_awry_121 (by decide)
theorem dX11_awry_122 : decode cX11_awry 122 = .ok (.if_icmp .ne 14, 3) := by decide +kernel
theorem tX11_awry_122 {d : Nat} {l0 l1 l2 l3 l4 l5 l6 : Option Value} {x y : Int32} {m : jmM} {Q : Option Value → jmM → Prop} : AW d 173 122 [l0, l1, l2, l3, l4, l5, l6] [.int y, .int x] m Q ↔ if x = y then AW d 173 125 [l0, l1, l2, l3, l4, l5, l6] [] m Q else AW d 173 136 [l0, l1, l2, l3, l4, l5, l6] [] m Q := A_icmp_ne hB_X11_awry dX11_awry_122 (by decide)
theorem dX11_awry_125 : decode cX11_awry 125 = .ok (.iconst 0, 1) := by decide +kernel
theorem tX11_awry_125 {d : Nat} {l0 l1 l2 l3 l4 l5 l6 : Option Value} {m : jmM} {Q : Option Value → jmM → Prop} : AW d 173 125 [l0, l1, l2, l3, l4, l5, l6] [] m Q ↔ AW d 173 126 [l0, l1, l2, l3, l4, l5, l6] [.int 0] m Q := A_iconst hB_X11_awry dX11_awry_125 (by decide)
theorem dX11_awry_126 : decode cX11_awry 126 = .ok (.iload 4, 2) := by decide +kernel
theorem tX11_awry_126 {d : Nat} {l0 l1 l2 l3 l5 l6 : Option Value} {v0 : Value} {x : Int32} {m : jmM} {Q : Option Value → jmM → Prop} : AW d 173 126 [l0, l1, l2, l3, some (.int x), l5, l6] [v0] m Q ↔ AW d 173 128 [l0, l1, l2, l3, some (.int x), l5, l6] [.int x, v0] m Q := A_iload hB_X11_awry dX11_awry_126 rfl
theorem dX11_awry_128 : decode cX11_awry 128 = .ok (.iload_n 3, 1) := by decide +kernel
theorem tX11_awry_128 {d : Nat} {l0 l1 l2 l4 l5 l6 : Option Value} {v0 v1 : Value} {x : Int32} {m : jmM} {Q : Option Value → jmM → Prop} : AW d 173 128 [l0, l1, l2, some (.int x), l4, l5, l6] [v0, v1] m Q ↔ AW d 173 129 [l0, l1, l2, some (.int x), l4, l5, l6] [.int x, v0, v1] m Q := A_iload_n hB_X11_awry dX11_awry_128 rfl
theorem dX11_awry_129 : decode cX11_awry 129 = .ok (.isub, 1) := by decide +kernel
theorem tX11_awry_129 {d : Nat} {l0 l1 l2 l3 l4 l5 l6 : Option Value} {v2 : Value} {x y : Int32} {m : jmM} {Q : Option Value → jmM → Prop} : AW d 173 129 [l0, l1, l2, l3, l4, l5, l6] [.int y, .int x, v2] m Q ↔ AW d 173 130 [l0, l1, l2, l3, l4, l5, l6] [.int (x - y), v2] m Q := A_isub hB_X11_awry dX11_awry_129
theorem dX11_awry_130 : decode cX11_awry 130 = .ok (.iconst 1, 1) := by decide +kernel
theorem tX11_awry_130 {d : Nat} {l0 l1 l2 l3 l4 l5 l6 : Option Value} {v0 v1 : Value} {m : jmM} {Q : Option Value → jmM → Prop} : AW d 173 130 [l0, l1, l2, l3, l4, l5, l6] [v0, v1] m Q ↔ AW d 173 131 [l0, l1, l2, l3, l4, l5, l6] [.int 1, v0, v1] m Q := A_iconst hB_X11_awry dX11_awry_130 (by decide)
theorem dX11_awry_131 : decode cX11_awry 131 = .ok (.iadd, 1) := by decide +kernel
theorem tX11_awry_131 {d : Nat} {l0 l1 l2 l3 l4 l5 l6 : Option Value} {v2 : Value} {x y : Int32} {m : jmM} {Q : Option Value → jmM → Prop} : AW d 173 131 [l0, l1, l2, l3, l4, l5, l6] [.int y, .int x, v2] m Q ↔ AW d 173 132 [l0, l1, l2, l3, l4, l5, l6] [.int (x + y), v2] m Q := A_iadd hB_X11_awry dX11_awry_131
theorem dX11_awry_132 : decode cX11_awry 132 = .ok (.invokestatic 327, 3) := by decide +kernel
theorem tX11_awry_132 {d : Nat} {l0 l1 l2 l3 l4 l5 l6 : Option Value} {x y : Int32} {m : jmM} {Q : Option Value → jmM → Prop} : AW d 173 132 [l0, l1, l2, l3, l4, l5, l6] [.int y, .int x] m Q ↔ AW d 173 135 [l0, l1, l2, l3, l4, l5, l6] [.int (if x < y then y else x)] m Q := A_max hB_X11_awry dX11_awry_132 hO_X11_awry fS_11_327 (Nat.le_of_ble_eq_true rfl)
theorem dX11_awry_135 : decode cX11_awry 135 = .ok (.ireturn, 1) := by decide +kernel
theorem tX11_awry_135 {d : Nat} {l0 l1 l2 l3 l4 l5 l6 : Option Value} {x : Int32} {m : jmM} {Q : Option Value → jmM → Prop} : AW d 173 135 [l0, l1, l2, l3, l4, l5, l6] [.int x] m Q ↔ Q (some (.int x)) m := A_ireturn hB_X11_awry dX11_awry_135 hR_X11_awry
theorem dX11_awry_136 : decode cX11_awry 136 = .ok (.iload_n 3, 1) := by decide +kernel
theorem tX11_awry_136 {d : Nat} {l0 l1 l2 l4 l5 l6 : Option Value} {x : Int32} {m : jmM} {Q : Option Value → jmM → Prop} : AW d 173 136 [l0, l1, l2, some (.int x), l4, l5, l6] [] m Q ↔ AW d 173 137 [l0, l1, l2, some (.int x), l4, l5, l6] [.int x] m Q := A_iload_n hB_X11_awry dX11_awry_136 rfl
theorem dX11_awry_137 : decode cX11_awry 137 = .ok (.iload 4, 2) := by decide +kernel
theorem tX11_awry_137 {d : Nat} {l0 l1 l2 l3 l5 l6 : Option Value} {v0 : Value} {x : Int32} {m : jmM} {Q : Option Value → jmM → Prop} : AW d 173 137 [l0, l1, l2, l3, some (.int x), l5, l6] [v0] m Q ↔ AW d 173 139 [l0, l1, l2, l3, some (.int x), l5, l6] [.int x, v0] m Q := A_iload hB_X11_awry dX11_awry_137 rfl
theorem dX11_awry_139 : decode cX11_awry 139 = .ok (.if_icmp .le 7, 3) := by decide +kernel
theorem tX11_awry_139 {d : Nat} {l0 l1 l2 l3 l4 l5 l6 : Option Value} {x y : Int32} {m : jmM} {Q : Option Value → jmM → Prop} : AW d 173 139 [l0, l1, l2, l3, l4, l5, l6] [.int y, .int x] m Q ↔ if x ≤ y then AW d 173 146 [l0, l1, l2, l3, l4, l5, l6] [] m Q else AW d 173 142 [l0, l1, l2, l3, l4, l5, l6] [] m Q := A_icmp_le hB_X11_awry dX11_awry_139 (by decide)
theorem dX11_awry_142 : decode cX11_awry 142 = .ok (.sipush (-1000), 3) := by decide +kernel
theorem tX11_awry_142 {d : Nat} {l0 l1 l2 l3 l4 l5 l6 : Option Value} {m : jmM} {Q : Option Value → jmM → Prop} : AW d 173 142 [l0, l1, l2, l3, l4, l5, l6] [] m Q ↔ AW d 173 145 [l0, l1, l2, l3, l4, l5, l6] [.int (-1000)] m Q := A_sipush hB_X11_awry dX11_awry_142 rfl
theorem dX11_awry_145 : decode cX11_awry 145 = .ok (.ireturn, 1) := by decide +kernel
theorem tX11_awry_145 {d : Nat} {l0 l1 l2 l3 l4 l5 l6 : Option Value} {x : Int32} {m : jmM} {Q : Option Value → jmM → Prop} : AW d 173 145 [l0, l1, l2, l3, l4, l5, l6] [.int x] m Q ↔ Q (some (.int x)) m := A_ireturn hB_X11_awry dX11_awry_145 hR_X11_awry
theorem dX11_awry_146 : decode cX11_awry 146 = .ok (.iload_n 2, 1) := by decide +kernel
theorem tX11_awry_146 {d : Nat} {l0 l1 l3 l4 l5 l6 : Option Value} {x : Int32} {m : jmM} {Q : Option Value → jmM → Prop} : AW d 173 146 [l0, l1, some (.int x), l3, l4, l5, l6] [] m Q ↔ AW d 173 147 [l0, l1, some (.int x), l3, l4, l5, l6] [.int x] m Q := A_iload_n hB_X11_awry dX11_awry_146 rfl
theorem dX11_awry_147 : decode cX11_awry 147 = .ok (.ifCond .ne 7, 3) := by decide +kernel
theorem tX11_awry_147 {d : Nat} {l0 l1 l2 l3 l4 l5 l6 : Option Value} {x : Int32} {m : jmM} {Q : Option Value → jmM → Prop} : AW d 173 147 [l0, l1, l2, l3, l4, l5, l6] [.int x] m Q ↔ if x = 0 then AW d 173 150 [l0, l1, l2, l3, l4, l5, l6] [] m Q else AW d 173 154 [l0, l1, l2, l3, l4, l5, l6] [] m Q := A_if_ne hB_X11_awry dX11_awry_147 (by decide)
theorem dX11_awry_150 : decode cX11_awry 150 = .ok (.iload_n 3, 1) := by decide +kernel
theorem tX11_awry_150 {d : Nat} {l0 l1 l2 l4 l5 l6 : Option Value} {x : Int32} {m : jmM} {Q : Option Value → jmM → Prop} : AW d 173 150 [l0, l1, l2, some (.int x), l4, l5, l6] [] m Q ↔ AW d 173 151 [l0, l1, l2, some (.int x), l4, l5, l6] [.int x] m Q := A_iload_n hB_X11_awry dX11_awry_150 rfl
theorem dX11_awry_151 : decode cX11_awry 151 = .ok (.goto 5, 3) := by decide +kernel
theorem tX11_awry_151 {d : Nat} {l0 l1 l2 l3 l4 l5 l6 : Option Value} {v0 : Value} {m : jmM} {Q : Option Value → jmM → Prop} : AW d 173 151 [l0, l1, l2, l3, l4, l5, l6] [v0] m Q ↔ AW d 173 156 [l0, l1, l2, l3, l4, l5, l6] [v0] m Q := A_goto hB_X11_awry dX11_awry_151 (by decide)
theorem dX11_awry_154 : decode cX11_awry 154 = .ok (.iload 4, 2) := by decide +kernel
theorem tX11_awry_154 {d : Nat} {l0 l1 l2 l3 l5 l6 : Option Value} {x : Int32} {m : jmM} {Q : Option Value → jmM → Prop} : AW d 173 154 [l0, l1, l2, l3, some (.int x), l5, l6] [] m Q ↔ AW d 173 156 [l0, l1, l2, l3, some (.int x), l5, l6] [.int x] m Q := A_iload hB_X11_awry dX11_awry_154 rfl
theorem dX11_awry_156 : decode cX11_awry 156 = .ok (.ireturn, 1) := by decide +kernel
theorem tX11_awry_156 {d : Nat} {l0 l1 l2 l3 l4 l5 l6 : Option Value} {x : Int32} {m : jmM} {Q : Option Value → jmM → Prop} : AW d 173 156 [l0, l1, l2, l3, l4, l5, l6] [.int x] m Q ↔ Q (some (.int x)) m := A_ireturn hB_X11_awry dX11_awry_156 hR_X11_awry
theorem hB_X11_far : jB 174 = cX11_far := rfl
theorem hO_X11_far : jO 174 = 11 := rfl
theorem hR_X11_far : jRt 174 = (some .int) := rfl
theorem nX11_far (d : Nat) (x0 : Nat) (x1 : Int32) (x2 : Int32) (x3 : Int32) (m : jmM) (Q : Option Value → jmM → Prop) : CC (d + 1) 174 [.ref x0, .int x1, .int x2, .int x3] m Q ↔ AW d 174 0 [some (.ref x0), some (.int x1), some (.int x2), some (.int x3), none, none, none] [] m Q := CC_body (Nat.le_of_ble_eq_true rfl)
theorem dX11_far_0 : decode cX11_far 0 = .ok (.aload_n 0, 1) := by decide +kernel
theorem tX11_far_0 {d : Nat} {l1 l2 l3 l4 l5 l6 : Option Value} {x : Nat} {m : jmM} {Q : Option Value → jmM → Prop} : AW d 174 0 [some (.ref x), l1, l2, l3, l4, l5, l6] [] m Q ↔ AW d 174 1 [some (.ref x), l1, l2, l3, l4, l5, l6] [.ref x] m Q := A_aload_n hB_X11_far dX11_far_0 rfl
theorem dX11_far_1 : decode cX11_far 1 = .ok (.getfield 32, 3) := by decide +kernel
theorem tX11_far_1 {d : Nat} {l0 l1 l2 l3 l4 l5 l6 : Option Value} {a : Nat} {m : jmM} {Q : Option Value → jmM → Prop} : AW d 174 1 [l0, l1, l2, l3, l4, l5, l6] [.ref a] m Q ↔ (mS m a).1 = 11 ∧ AW d 174 4 [l0, l1, l2, l3, l4, l5, l6] [va_rf (mR m a 3)] m Q := A_getfield (f := fun m a => va_rf (mR m a 3)) hB_X11_far dX11_far_1 hO_X11_far fF_11_32 rfl
theorem dX11_far_4 : decode cX11_far 4 = .ok (.iload_n 1, 1) := by decide +kernel
theorem tX11_far_4 {d : Nat} {l0 l2 l3 l4 l5 l6 : Option Value} {v0 : Value} {x : Int32} {m : jmM} {Q : Option Value → jmM → Prop} : AW d 174 4 [l0, some (.int x), l2, l3, l4, l5, l6] [v0] m Q ↔ AW d 174 5 [l0, some (.int x), l2, l3, l4, l5, l6] [.int x, v0] m Q := A_iload_n hB_X11_far dX11_far_4 rfl
theorem dX11_far_5 : decode cX11_far 5 = .ok (.invokevirtual 136, 3) := by decide +kernel
theorem tX11_far_5 {d : Nat} {l0 l1 l2 l3 l4 l5 l6 : Option Value} {y0 : Value} {a : Nat} {m : jmM} {Q : Option Value → jmM → Prop} : AW d 174 5 [l0, l1, l2, l3, l4, l5, l6] [y0, .ref a] m Q ↔ (mS m a).1 = 4 ∧ CC d 45 [.ref a, y0] m (jK d 174 8 [l0, l1, l2, l3, l4, l5, l6] [] Q) := A_callV hB_X11_far dX11_far_5 hO_X11_far fS_11_136 ⟨Nat.le_of_ble_eq_true rfl, Nat.le_of_ble_eq_true rfl⟩ rfl rfl rfl
theorem dX11_far_8 : decode cX11_far 8 = .ok (.astore 4, 2) := by decide +kernel
theorem tX11_far_8 {d : Nat} {l0 l1 l2 l3 l4 l5 l6 : Option Value} {x : Nat} {m : jmM} {Q : Option Value → jmM → Prop} : AW d 174 8 [l0, l1, l2, l3, l4, l5, l6] [.ref x] m Q ↔ AW d 174 10 [l0, l1, l2, jc1 l3, some (.ref x), l5, l6] [] m Q := A_astore hB_X11_far dX11_far_8 (Nat.le_of_ble_eq_true rfl) rfl
theorem tX11_far_8q {d : Nat} {l0 l1 l2 l3 l4 l5 l6 : Option Value} {x : Option Nat} {m : jmM} {Q : Option Value → jmM → Prop} : AW d 174 8 [l0, l1, l2, l3, l4, l5, l6] [va_rf x] m Q ↔ AW d 174 10 [l0, l1, l2, jc1 l3, some (va_rf x), l5, l6] [] m Q := A_astoreq hB_X11_far dX11_far_8 (Nat.le_of_ble_eq_true rfl) rfl
theorem dX11_far_10 : decode cX11_far 10 = .ok (.aload 4, 2) := by decide +kernel
theorem tX11_far_10 {d : Nat} {l0 l1 l2 l3 l5 l6 : Option Value} {x : Nat} {m : jmM} {Q : Option Value → jmM → Prop} : AW d 174 10 [l0, l1, l2, l3, some (.ref x), l5, l6] [] m Q ↔ AW d 174 12 [l0, l1, l2, l3, some (.ref x), l5, l6] [.ref x] m Q := A_aload hB_X11_far dX11_far_10 rfl
theorem tX11_far_10q {d : Nat} {l0 l1 l2 l3 l5 l6 : Option Value} {x : Option Nat} {m : jmM} {Q : Option Value → jmM → Prop} : AW d 174 10 [l0, l1, l2, l3, some (va_rf x), l5, l6] [] m Q ↔ AW d 174 12 [l0, l1, l2, l3, some (va_rf x), l5, l6] [va_rf x] m Q := A_aloadq hB_X11_far dX11_far_10 rfl
theorem dX11_far_12 : decode cX11_far 12 = .ok (.ifnull 36, 3) := by decide +kernel
theorem tX11_far_12 {d : Nat} {l0 l1 l2 l3 l4 l5 l6 : Option Value} {x : Option Nat} {m : jmM} {Q : Option Value → jmM → Prop} : AW d 174 12 [l0, l1, l2, l3, l4, l5, l6] [va_rf x] m Q ↔ if x = none then AW d 174 48 [l0, l1, l2, l3, l4, l5, l6] [] m Q else AW d 174 15 [l0, l1, l2, l3, l4, l5, l6] [] m Q := A_ifnull hB_X11_far dX11_far_12 (by decide)
theorem tX11_far_12r {d : Nat} {l0 l1 l2 l3 l4 l5 l6 : Option Value} {x : Nat} {m : jmM} {Q : Option Value → jmM → Prop} : AW d 174 12 [l0, l1, l2, l3, l4, l5, l6] [.ref x] m Q ↔ AW d 174 15 [l0, l1, l2, l3, l4, l5, l6] [] m Q := A_ifnull_r hB_X11_far dX11_far_12 (t := 48) (by decide)
theorem dX11_far_15 : decode cX11_far 15 = .ok (.aload_n 0, 1) := by decide +kernel
theorem tX11_far_15 {d : Nat} {l1 l2 l3 l4 l5 l6 : Option Value} {x : Nat} {m : jmM} {Q : Option Value → jmM → Prop} : AW d 174 15 [some (.ref x), l1, l2, l3, l4, l5, l6] [] m Q ↔ AW d 174 16 [some (.ref x), l1, l2, l3, l4, l5, l6] [.ref x] m Q := A_aload_n hB_X11_far dX11_far_15 rfl
theorem dX11_far_16 : decode cX11_far 16 = .ok (.getfield 56, 3) := by decide +kernel
theorem tX11_far_16 {d : Nat} {l0 l1 l2 l3 l4 l5 l6 : Option Value} {a : Nat} {m : jmM} {Q : Option Value → jmM → Prop} : AW d 174 16 [l0, l1, l2, l3, l4, l5, l6] [.ref a] m Q ↔ (mS m a).1 = 11 ∧ AW d 174 19 [l0, l1, l2, l3, l4, l5, l6] [va_rf (mR m a 8)] m Q := A_getfield (f := fun m a => va_rf (mR m a 8)) hB_X11_far dX11_far_16 hO_X11_far fF_11_56 rfl
theorem dX11_far_19 : decode cX11_far 19 = .ok (.invokevirtual 159, 3) := by decide +kernel
theorem tX11_far_19 {d : Nat} {l0 l1 l2 l3 l4 l5 l6 : Option Value} {a : Nat} {m : jmM} {Q : Option Value → jmM → Prop} : AW d 174 19 [l0, l1, l2, l3, l4, l5, l6] [.ref a] m Q ↔ (mS m a).1 = 5 ∧ CC d 73 [.ref a] m (jK d 174 22 [l0, l1, l2, l3, l4, l5, l6] [] Q) := A_callV hB_X11_far dX11_far_19 hO_X11_far fS_11_159 ⟨Nat.le_of_ble_eq_true rfl, Nat.le_of_ble_eq_true rfl⟩ rfl rfl rfl
theorem dX11_far_22 : decode cX11_far 22 = .ok (.iconst 1, 1) := by decide +kernel
theorem tX11_far_22 {d : Nat} {l0 l1 l2 l3 l4 l5 l6 : Option Value} {v0 : Value} {m : jmM} {Q : Option Value → jmM → Prop} : AW d 174 22 [l0, l1, l2, l3, l4, l5, l6] [v0] m Q ↔ AW d 174 23 [l0, l1, l2, l3, l4, l5, l6] [.int 1, v0] m Q := A_iconst hB_X11_far dX11_far_22 (by decide)
theorem dX11_far_23 : decode cX11_far 23 = .ok (.if_icmp .ne 25, 3) := by decide +kernel
theorem tX11_far_23 {d : Nat} {l0 l1 l2 l3 l4 l5 l6 : Option Value} {x y : Int32} {m : jmM} {Q : Option Value → jmM → Prop} : AW d 174 23 [l0, l1, l2, l3, l4, l5, l6] [.int y, .int x] m Q ↔ if x = y then AW d 174 26 [l0, l1, l2, l3, l4, l5, l6] [] m Q else AW d 174 48 [l0, l1, l2, l3, l4, l5, l6] [] m Q := A_icmp_ne hB_X11_far dX11_far_23 (by decide)
theorem dX11_far_26 : decode cX11_far 26 = .ok (.iload_n 2, 1) := by decide +kernel
theorem tX11_far_26 {d : Nat} {l0 l1 l3 l4 l5 l6 : Option Value} {x : Int32} {m : jmM} {Q : Option Value → jmM → Prop} : AW d 174 26 [l0, l1, some (.int x), l3, l4, l5, l6] [] m Q ↔ AW d 174 27 [l0, l1, some (.int x), l3, l4, l5, l6] [.int x] m Q := A_iload_n hB_X11_far dX11_far_26 rfl
theorem dX11_far_27 : decode cX11_far 27 = .ok (.iconst 1, 1) := by decide +kernel
theorem tX11_far_27 {d : Nat} {l0 l1 l2 l3 l4 l5 l6 : Option Value} {v0 : Value} {m : jmM} {Q : Option Value → jmM → Prop} : AW d 174 27 [l0, l1, l2, l3, l4, l5, l6] [v0] m Q ↔ AW d 174 28 [l0, l1, l2, l3, l4, l5, l6] [.int 1, v0] m Q := A_iconst hB_X11_far dX11_far_27 (by decide)
theorem dX11_far_28 : decode cX11_far 28 = .ok (.sipush 300, 3) := by decide +kernel
theorem tX11_far_28 {d : Nat} {l0 l1 l2 l3 l4 l5 l6 : Option Value} {v0 v1 : Value} {m : jmM} {Q : Option Value → jmM → Prop} : AW d 174 28 [l0, l1, l2, l3, l4, l5, l6] [v0, v1] m Q ↔ AW d 174 31 [l0, l1, l2, l3, l4, l5, l6] [.int 300, v0, v1] m Q := A_sipush hB_X11_far dX11_far_28 rfl
theorem dX11_far_31 : decode cX11_far 31 = .ok (.invokestatic 128, 3) := by decide +kernel
theorem tX11_far_31 {d : Nat} {l0 l1 l2 l3 l4 l5 l6 : Option Value} {y0 y1 y2 : Value} {m : jmM} {Q : Option Value → jmM → Prop} : AW d 174 31 [l0, l1, l2, l3, l4, l5, l6] [y0, y1, y2] m Q ↔ CC d 183 [y2, y1, y0] m (jK d 174 34 [l0, l1, l2, l3, l4, l5, l6] [] Q) := A_callS0 hB_X11_far dX11_far_31 hO_X11_far fS_11_128 ⟨Nat.le_of_ble_eq_true rfl, Nat.le_of_ble_eq_true rfl⟩ rfl rfl
theorem dX11_far_34 : decode cX11_far 34 = .ok (.ifCond .eq 14, 3) := by decide +kernel
theorem tX11_far_34 {d : Nat} {l0 l1 l2 l3 l4 l5 l6 : Option Value} {x : Int32} {m : jmM} {Q : Option Value → jmM → Prop} : AW d 174 34 [l0, l1, l2, l3, l4, l5, l6] [.int x] m Q ↔ if x = 0 then AW d 174 48 [l0, l1, l2, l3, l4, l5, l6] [] m Q else AW d 174 37 [l0, l1, l2, l3, l4, l5, l6] [] m Q := A_if_eq hB_X11_far dX11_far_34 (by decide)
theorem dX11_far_37 : decode cX11_far 37 = .ok (.iload_n 3, 1) := by decide +kernel
theorem tX11_far_37 {d : Nat} {l0 l1 l2 l4 l5 l6 : Option Value} {x : Int32} {m : jmM} {Q : Option Value → jmM → Prop} : AW d 174 37 [l0, l1, l2, some (.int x), l4, l5, l6] [] m Q ↔ AW d 174 38 [l0, l1, l2, some (.int x), l4, l5, l6] [.int x] m Q := A_iload_n hB_X11_far dX11_far_37 rfl
theorem dX11_far_38 : decode cX11_far 38 = .ok (.iconst 0, 1) := by decide +kernel
theorem tX11_far_38 {d : Nat} {l0 l1 l2 l3 l4 l5 l6 : Option Value} {v0 : Value} {m : jmM} {Q : Option Value → jmM → Prop} : AW d 174 38 [l0, l1, l2, l3, l4, l5, l6] [v0] m Q ↔ AW d 174 39 [l0, l1, l2, l3, l4, l5, l6] [.int 0, v0] m Q := A_iconst hB_X11_far dX11_far_38 (by decide)
theorem dX11_far_39 : decode cX11_far 39 = .ok (.sipush 9999, 3) := by decide +kernel
theorem tX11_far_39 {d : Nat} {l0 l1 l2 l3 l4 l5 l6 : Option Value} {v0 v1 : Value} {m : jmM} {Q : Option Value → jmM → Prop} : AW d 174 39 [l0, l1, l2, l3, l4, l5, l6] [v0, v1] m Q ↔ AW d 174 42 [l0, l1, l2, l3, l4, l5, l6] [.int 9999, v0, v1] m Q := A_sipush hB_X11_far dX11_far_39 rfl
theorem dX11_far_42 : decode cX11_far 42 = .ok (.invokestatic 128, 3) := by decide +kernel
theorem tX11_far_42 {d : Nat} {l0 l1 l2 l3 l4 l5 l6 : Option Value} {y0 y1 y2 : Value} {m : jmM} {Q : Option Value → jmM → Prop} : AW d 174 42 [l0, l1, l2, l3, l4, l5, l6] [y0, y1, y2] m Q ↔ CC d 183 [y2, y1, y0] m (jK d 174 45 [l0, l1, l2, l3, l4, l5, l6] [] Q) := A_callS0 hB_X11_far dX11_far_42 hO_X11_far fS_11_128 ⟨Nat.le_of_ble_eq_true rfl, Nat.le_of_ble_eq_true rfl⟩ rfl rfl
theorem dX11_far_45 : decode cX11_far 45 = .ok (.ifCond .ne 5, 3) := by decide +kernel
theorem tX11_far_45 {d : Nat} {l0 l1 l2 l3 l4 l5 l6 : Option Value} {x : Int32} {m : jmM} {Q : Option Value → jmM → Prop} : AW d 174 45 [l0, l1, l2, l3, l4, l5, l6] [.int x] m Q ↔ if x = 0 then AW d 174 48 [l0, l1, l2, l3, l4, l5, l6] [] m Q else AW d 174 50 [l0, l1, l2, l3, l4, l5, l6] [] m Q := A_if_ne hB_X11_far dX11_far_45 (by decide)
theorem dX11_far_48 : decode cX11_far 48 = .ok (.iconst (-1), 1) := by decide +kernel
theorem tX11_far_48 {d : Nat} {l0 l1 l2 l3 l4 l5 l6 : Option Value} {m : jmM} {Q : Option Value → jmM → Prop} : AW d 174 48 [l0, l1, l2, l3, l4, l5, l6] [] m Q ↔ AW d 174 49 [l0, l1, l2, l3, l4, l5, l6] [.int (-1)] m Q := A_iconst hB_X11_far dX11_far_48 (by decide)
theorem dX11_far_49 : decode cX11_far 49 = .ok (.ireturn, 1) := by decide +kernel
theorem tX11_far_49 {d : Nat} {l0 l1 l2 l3 l4 l5 l6 : Option Value} {x : Int32} {m : jmM} {Q : Option Value → jmM → Prop} : AW d 174 49 [l0, l1, l2, l3, l4, l5, l6] [.int x] m Q ↔ Q (some (.int x)) m := A_ireturn hB_X11_far dX11_far_49 hR_X11_far
theorem dX11_far_50 : decode cX11_far 50 = .ok (.iconst 0, 1) := by decide +kernel
theorem tX11_far_50 {d : Nat} {l0 l1 l2 l3 l4 l5 l6 : Option Value} {m : jmM} {Q : Option Value → jmM → Prop} : AW d 174 50 [l0, l1, l2, l3, l4, l5, l6] [] m Q ↔ AW d 174 51 [l0, l1, l2, l3, l4, l5, l6] [.int 0] m Q := A_iconst hB_X11_far dX11_far_50 (by decide)
theorem dX11_far_51 : decode cX11_far 51 = .ok (.istore 5, 2) := by decide +kernel
theorem tX11_far_51 {d : Nat} {l0 l1 l2 l3 l4 l5 l6 : Option Value} {x : Int32} {m : jmM} {Q : Option Value → jmM → Prop} : AW d 174 51 [l0, l1, l2, l3, l4, l5, l6] [.int x] m Q ↔ AW d 174 53 [l0, l1, l2, l3, jc1 l4, some (.int x), l6] [] m Q := A_istore hB_X11_far dX11_far_51 (Nat.le_of_ble_eq_true rfl) rfl
theorem dX11_far_53 : decode cX11_far 53 = .ok (.iload 5, 2) := by decide +kernel
theorem tX11_far_53 {d : Nat} {l0 l1 l2 l3 l4 l6 : Option Value} {x : Int32} {m : jmM} {Q : Option Value → jmM → Prop} : AW d 174 53 [l0, l1, l2, l3, l4, some (.int x), l6] [] m Q ↔ AW d 174 55 [l0, l1, l2, l3, l4, some (.int x), l6] [.int x] m Q := A_iload hB_X11_far dX11_far_53 rfl
theorem dX11_far_55 : decode cX11_far 55 = .ok (.bipush 100, 2) := by decide +kernel
theorem tX11_far_55 {d : Nat} {l0 l1 l2 l3 l4 l5 l6 : Option Value} {v0 : Value} {m : jmM} {Q : Option Value → jmM → Prop} : AW d 174 55 [l0, l1, l2, l3, l4, l5, l6] [v0] m Q ↔ AW d 174 57 [l0, l1, l2, l3, l4, l5, l6] [.int 100, v0] m Q := A_bipush hB_X11_far dX11_far_55 rfl
theorem dX11_far_57 : decode cX11_far 57 = .ok (.if_icmp .gt 69, 3) := by decide +kernel
theorem tX11_far_57 {d : Nat} {l0 l1 l2 l3 l4 l5 l6 : Option Value} {x y : Int32} {m : jmM} {Q : Option Value → jmM → Prop} : AW d 174 57 [l0, l1, l2, l3, l4, l5, l6] [.int y, .int x] m Q ↔ if y < x then AW d 174 126 [l0, l1, l2, l3, l4, l5, l6] [] m Q else AW d 174 60 [l0, l1, l2, l3, l4, l5, l6] [] m Q := A_icmp_gt hB_X11_far dX11_far_57 (by decide)
theorem dX11_far_60 : decode cX11_far 60 = .ok (.aload_n 0, 1) := by decide +kernel
theorem tX11_far_60 {d : Nat} {l1 l2 l3 l4 l5 l6 : Option Value} {x : Nat} {m : jmM} {Q : Option Value → jmM → Prop} : AW d 174 60 [some (.ref x), l1, l2, l3, l4, l5, l6] [] m Q ↔ AW d 174 61 [some (.ref x), l1, l2, l3, l4, l5, l6] [.ref x] m Q := A_aload_n hB_X11_far dX11_far_60 rfl
theorem dX11_far_61 : decode cX11_far 61 = .ok (.aload 4, 2) := by decide +kernel
theorem tX11_far_61 {d : Nat} {l0 l1 l2 l3 l5 l6 : Option Value} {v0 : Value} {x : Nat} {m : jmM} {Q : Option Value → jmM → Prop} : AW d 174 61 [l0, l1, l2, l3, some (.ref x), l5, l6] [v0] m Q ↔ AW d 174 63 [l0, l1, l2, l3, some (.ref x), l5, l6] [.ref x, v0] m Q := A_aload hB_X11_far dX11_far_61 rfl
theorem tX11_far_61q {d : Nat} {l0 l1 l2 l3 l5 l6 : Option Value} {v0 : Value} {x : Option Nat} {m : jmM} {Q : Option Value → jmM → Prop} : AW d 174 61 [l0, l1, l2, l3, some (va_rf x), l5, l6] [v0] m Q ↔ AW d 174 63 [l0, l1, l2, l3, some (va_rf x), l5, l6] [va_rf x, v0] m Q := A_aloadq hB_X11_far dX11_far_61 rfl
theorem dX11_far_63 : decode cX11_far 63 = .ok (.iload_n 2, 1) := by decide +kernel
theorem tX11_far_63 {d : Nat} {l0 l1 l3 l4 l5 l6 : Option Value} {v0 v1 : Value} {x : Int32} {m : jmM} {Q : Option Value → jmM → Prop} : AW d 174 63 [l0, l1, some (.int x), l3, l4, l5, l6] [v0, v1] m Q ↔ AW d 174 64 [l0, l1, some (.int x), l3, l4, l5, l6] [.int x, v0, v1] m Q := A_iload_n hB_X11_far dX11_far_63 rfl
theorem dX11_far_64 : decode cX11_far 64 = .ok (.iload 5, 2) := by decide +kernel
theorem tX11_far_64 {d : Nat} {l0 l1 l2 l3 l4 l6 : Option Value} {v0 v1 v2 : Value} {x : Int32} {m : jmM} {Q : Option Value → jmM → Prop} : AW d 174 64 [l0, l1, l2, l3, l4, some (.int x), l6] [v0, v1, v2] m Q ↔ AW d 174 66 [l0, l1, l2, l3, l4, some (.int x), l6] [.int x, v0, v1, v2] m Q := A_iload hB_X11_far dX11_far_64 rfl
theorem dX11_far_66 : decode cX11_far 66 = .ok (.invokevirtual 278, 3) := by decide +kernel
theorem tX11_far_66 {d : Nat} {l0 l1 l2 l3 l4 l5 l6 : Option Value} {y0 y1 y2 : Value} {a : Nat} {m : jmM} {Q : Option Value → jmM → Prop} : AW d 174 66 [l0, l1, l2, l3, l4, l5, l6] [y0, y1, y2, .ref a] m Q ↔ (mS m a).1 = 11 ∧ CC d 179 [.ref a, y2, y1, y0] m (jK d 174 69 [l0, l1, l2, l3, l4, l5, l6] [] Q) := A_callV hB_X11_far dX11_far_66 hO_X11_far fS_11_278 ⟨Nat.le_of_ble_eq_true rfl, Nat.le_of_ble_eq_true rfl⟩ rfl rfl rfl
theorem dX11_far_69 : decode cX11_far 69 = .ok (.aload_n 0, 1) := by decide +kernel
theorem tX11_far_69 {d : Nat} {l1 l2 l3 l4 l5 l6 : Option Value} {x : Nat} {m : jmM} {Q : Option Value → jmM → Prop} : AW d 174 69 [some (.ref x), l1, l2, l3, l4, l5, l6] [] m Q ↔ AW d 174 70 [some (.ref x), l1, l2, l3, l4, l5, l6] [.ref x] m Q := A_aload_n hB_X11_far dX11_far_69 rfl
theorem dX11_far_70 : decode cX11_far 70 = .ok (.getfield 60, 3) := by decide +kernel
theorem tX11_far_70 {d : Nat} {l0 l1 l2 l3 l4 l5 l6 : Option Value} {a : Nat} {m : jmM} {Q : Option Value → jmM → Prop} : AW d 174 70 [l0, l1, l2, l3, l4, l5, l6] [.ref a] m Q ↔ (mS m a).1 = 11 ∧ AW d 174 73 [l0, l1, l2, l3, l4, l5, l6] [va_rf (mR m a 9)] m Q := A_getfield (f := fun m a => va_rf (mR m a 9)) hB_X11_far dX11_far_70 hO_X11_far fF_11_60 rfl
theorem dX11_far_73 : decode cX11_far 73 = .ok (.invokevirtual 333, 3) := by decide +kernel
theorem tX11_far_73 {d : Nat} {l0 l1 l2 l3 l4 l5 l6 : Option Value} {a : Nat} {m : jmM} {Q : Option Value → jmM → Prop} : AW d 174 73 [l0, l1, l2, l3, l4, l5, l6] [.ref a] m Q ↔ (mS m a).1 = 5 ∧ CC d 51 [.ref a] m (jK d 174 76 [l0, l1, l2, l3, l4, l5, l6] [] Q) := A_callV hB_X11_far dX11_far_73 hO_X11_far fS_11_333 ⟨Nat.le_of_ble_eq_true rfl, Nat.le_of_ble_eq_true rfl⟩ rfl rfl rfl
theorem dX11_far_76 : decode cX11_far 76 = .ok (.istore 6, 2) := by decide +kernel
theorem tX11_far_76 {d : Nat} {l0 l1 l2 l3 l4 l5 l6 : Option Value} {x : Int32} {m : jmM} {Q : Option Value → jmM → Prop} : AW d 174 76 [l0, l1, l2, l3, l4, l5, l6] [.int x] m Q ↔ AW d 174 78 [l0, l1, l2, l3, l4, jc1 l5, some (.int x)] [] m Q := A_istore hB_X11_far dX11_far_76 (Nat.le_of_ble_eq_true rfl) rfl
theorem dX11_far_78 : decode cX11_far 78 = .ok (.aload_n 0, 1) := by decide +kernel
theorem tX11_far_78 {d : Nat} {l1 l2 l3 l4 l5 l6 : Option Value} {x : Nat} {m : jmM} {Q : Option Value → jmM → Prop} : AW d 174 78 [some (.ref x), l1, l2, l3, l4, l5, l6] [] m Q ↔ AW d 174 79 [some (.ref x), l1, l2, l3, l4, l5, l6] [.ref x] m Q := A_aload_n hB_X11_far dX11_far_78 rfl
theorem dX11_far_79 : decode cX11_far 79 = .ok (.aload 4, 2) := by decide +kernel
theorem tX11_far_79 {d : Nat} {l0 l1 l2 l3 l5 l6 : Option Value} {v0 : Value} {x : Nat} {m : jmM} {Q : Option Value → jmM → Prop} : AW d 174 79 [l0, l1, l2, l3, some (.ref x), l5, l6] [v0] m Q ↔ AW d 174 81 [l0, l1, l2, l3, some (.ref x), l5, l6] [.ref x, v0] m Q := A_aload hB_X11_far dX11_far_79 rfl
theorem tX11_far_79q {d : Nat} {l0 l1 l2 l3 l5 l6 : Option Value} {v0 : Value} {x : Option Nat} {m : jmM} {Q : Option Value → jmM → Prop} : AW d 174 79 [l0, l1, l2, l3, some (va_rf x), l5, l6] [v0] m Q ↔ AW d 174 81 [l0, l1, l2, l3, some (va_rf x), l5, l6] [va_rf x, v0] m Q := A_aloadq hB_X11_far dX11_far_79 rfl
theorem dX11_far_81 : decode cX11_far 81 = .ok (.iload_n 2, 1) := by decide +kernel
theorem tX11_far_81 {d : Nat} {l0 l1 l3 l4 l5 l6 : Option Value} {v0 v1 : Value} {x : Int32} {m : jmM} {Q : Option Value → jmM → Prop} : AW d 174 81 [l0, l1, some (.int x), l3, l4, l5, l6] [v0, v1] m Q ↔ AW d 174 82 [l0, l1, some (.int x), l3, l4, l5, l6] [.int x, v0, v1] m Q := A_iload_n hB_X11_far dX11_far_81 rfl
theorem dX11_far_82 : decode cX11_far 82 = .ok (.iload 5, 2) := by decide +kernel
theorem tX11_far_82 {d : Nat} {l0 l1 l2 l3 l4 l6 : Option Value} {v0 v1 v2 : Value} {x : Int32} {m : jmM} {Q : Option Value → jmM → Prop} : AW d 174 82 [l0, l1, l2, l3, l4, some (.int x), l6] [v0, v1, v2] m Q ↔ AW d 174 84 [l0, l1, l2, l3, l4, some (.int x), l6] [.int x, v0, v1, v2] m Q := A_iload hB_X11_far dX11_far_82 rfl
theorem dX11_far_84 : decode cX11_far 84 = .ok (.ineg, 1) := by decide +kernel
theorem tX11_far_84 {d : Nat} {l0 l1 l2 l3 l4 l5 l6 : Option Value} {v1 v2 v3 : Value} {x : Int32} {m : jmM} {Q : Option Value → jmM → Prop} : AW d 174 84 [l0, l1, l2, l3, l4, l5, l6] [.int x, v1, v2, v3] m Q ↔ AW d 174 85 [l0, l1, l2, l3, l4, l5, l6] [.int (-x), v1, v2, v3] m Q := A_ineg hB_X11_far dX11_far_84
theorem dX11_far_85 : decode cX11_far 85 = .ok (.invokevirtual 278, 3) := by decide +kernel
theorem tX11_far_85 {d : Nat} {l0 l1 l2 l3 l4 l5 l6 : Option Value} {y0 y1 y2 : Value} {a : Nat} {m : jmM} {Q : Option Value → jmM → Prop} : AW d 174 85 [l0, l1, l2, l3, l4, l5, l6] [y0, y1, y2, .ref a] m Q ↔ (mS m a).1 = 11 ∧ CC d 179 [.ref a, y2, y1, y0] m (jK d 174 88 [l0, l1, l2, l3, l4, l5, l6] [] Q) := A_callV hB_X11_far dX11_far_85 hO_X11_far fS_11_278 ⟨Nat.le_of_ble_eq_true rfl, Nat.le_of_ble_eq_true rfl⟩ rfl rfl rfl
theorem dX11_far_88 : decode cX11_far 88 = .ok (.iload 6, 2) := by decide +kernel
theorem tX11_far_88 {d : Nat} {l0 l1 l2 l3 l4 l5 : Option Value} {x : Int32} {m : jmM} {Q : Option Value → jmM → Prop} : AW d 174 88 [l0, l1, l2, l3, l4, l5, some (.int x)] [] m Q ↔ AW d 174 90 [l0, l1, l2, l3, l4, l5, some (.int x)] [.int x] m Q := A_iload hB_X11_far dX11_far_88 rfl
theorem dX11_far_90 : decode cX11_far 90 = .ok (.iload_n 3, 1) := by decide +kernel
theorem tX11_far_90 {d : Nat} {l0 l1 l2 l4 l5 l6 : Option Value} {v0 : Value} {x : Int32} {m : jmM} {Q : Option Value → jmM → Prop} : AW d 174 90 [l0, l1, l2, some (.int x), l4, l5, l6] [v0] m Q ↔ AW d 174 91 [l0, l1, l2, some (.int x), l4, l5, l6] [.int x, v0] m Q := A_iload_n hB_X11_far dX11_far_90 rfl
theorem dX11_far_91 : decode cX11_far 91 = .ok (.if_icmp .gt 14, 3) := by decide +kernel
theorem tX11_far_91 {d : Nat} {l0 l1 l2 l3 l4 l5 l6 : Option Value} {x y : Int32} {m : jmM} {Q : Option Value → jmM → Prop} : AW d 174 91 [l0, l1, l2, l3, l4, l5, l6] [.int y, .int x] m Q ↔ if y < x then AW d 174 105 [l0, l1, l2, l3, l4, l5, l6] [] m Q else AW d 174 94 [l0, l1, l2, l3, l4, l5, l6] [] m Q := A_icmp_gt hB_X11_far dX11_far_91 (by decide)
theorem dX11_far_94 : decode cX11_far 94 = .ok (.aload_n 0, 1) := by decide +kernel
theorem tX11_far_94 {d : Nat} {l1 l2 l3 l4 l5 l6 : Option Value} {x : Nat} {m : jmM} {Q : Option Value → jmM → Prop} : AW d 174 94 [some (.ref x), l1, l2, l3, l4, l5, l6] [] m Q ↔ AW d 174 95 [some (.ref x), l1, l2, l3, l4, l5, l6] [.ref x] m Q := A_aload_n hB_X11_far dX11_far_94 rfl
theorem dX11_far_95 : decode cX11_far 95 = .ok (.getfield 60, 3) := by decide +kernel
theorem tX11_far_95 {d : Nat} {l0 l1 l2 l3 l4 l5 l6 : Option Value} {a : Nat} {m : jmM} {Q : Option Value → jmM → Prop} : AW d 174 95 [l0, l1, l2, l3, l4, l5, l6] [.ref a] m Q ↔ (mS m a).1 = 11 ∧ AW d 174 98 [l0, l1, l2, l3, l4, l5, l6] [va_rf (mR m a 9)] m Q := A_getfield (f := fun m a => va_rf (mR m a 9)) hB_X11_far dX11_far_95 hO_X11_far fF_11_60 rfl
theorem dX11_far_98 : decode cX11_far 98 = .ok (.invokevirtual 333, 3) := by decide +kernel
theorem tX11_far_98 {d : Nat} {l0 l1 l2 l3 l4 l5 l6 : Option Value} {a : Nat} {m : jmM} {Q : Option Value → jmM → Prop} : AW d 174 98 [l0, l1, l2, l3, l4, l5, l6] [.ref a] m Q ↔ (mS m a).1 = 5 ∧ CC d 51 [.ref a] m (jK d 174 101 [l0, l1, l2, l3, l4, l5, l6] [] Q) := A_callV hB_X11_far dX11_far_98 hO_X11_far fS_11_333 ⟨Nat.le_of_ble_eq_true rfl, Nat.le_of_ble_eq_true rfl⟩ rfl rfl rfl
theorem dX11_far_101 : decode cX11_far 101 = .ok (.iload_n 3, 1) := by decide +kernel
theorem tX11_far_101 {d : Nat} {l0 l1 l2 l4 l5 l6 : Option Value} {v0 : Value} {x : Int32} {m : jmM} {Q : Option Value → jmM → Prop} : AW d 174 101 [l0, l1, l2, some (.int x), l4, l5, l6] [v0] m Q ↔ AW d 174 102 [l0, l1, l2, some (.int x), l4, l5, l6] [.int x, v0] m Q := A_iload_n hB_X11_far dX11_far_101 rfl
theorem dX11_far_102 : decode cX11_far 102 = .ok (.if_icmp .le 18, 3) := by decide +kernel
theorem tX11_far_102 {d : Nat} {l0 l1 l2 l3 l4 l5 l6 : Option Value} {x y : Int32} {m : jmM} {Q : Option Value → jmM → Prop} : AW d 174 102 [l0, l1, l2, l3, l4, l5, l6] [.int y, .int x] m Q ↔ if x ≤ y then AW d 174 120 [l0, l1, l2, l3, l4, l5, l6] [] m Q else AW d 174 105 [l0, l1, l2, l3, l4, l5, l6] [] m Q := A_icmp_le hB_X11_far dX11_far_102 (by decide)
theorem dX11_far_105 : decode cX11_far 105 = .ok (.iload 5, 2) := by decide +kernel
theorem tX11_far_105 {d : Nat} {l0 l1 l2 l3 l4 l6 : Option Value} {x : Int32} {m : jmM} {Q : Option Value → jmM → Prop} : AW d 174 105 [l0, l1, l2, l3, l4, some (.int x), l6] [] m Q ↔ AW d 174 107 [l0, l1, l2, l3, l4, some (.int x), l6] [.int x] m Q := A_iload hB_X11_far dX11_far_105 rfl
theorem dX11_far_107 : decode cX11_far 107 = .ok (.ifCond .ne 8, 3) := by decide +kernel
theorem tX11_far_107 {d : Nat} {l0 l1 l2 l3 l4 l5 l6 : Option Value} {x : Int32} {m : jmM} {Q : Option Value → jmM → Prop} : AW d 174 107 [l0, l1, l2, l3, l4, l5, l6] [.int x] m Q ↔ if x = 0 then AW d 174 110 [l0, l1, l2, l3, l4, l5, l6] [] m Q else AW d 174 115 [l0, l1, l2, l3, l4, l5, l6] [] m Q := A_if_ne hB_X11_far dX11_far_107 (by decide)
theorem dX11_far_110 : decode cX11_far 110 = .ok (.bipush (-2), 2) := by decide +kernel
theorem tX11_far_110 {d : Nat} {l0 l1 l2 l3 l4 l5 l6 : Option Value} {m : jmM} {Q : Option Value → jmM → Prop} : AW d 174 110 [l0, l1, l2, l3, l4, l5, l6] [] m Q ↔ AW d 174 112 [l0, l1, l2, l3, l4, l5, l6] [.int (-2)] m Q := A_bipush hB_X11_far dX11_far_110 rfl
theorem dX11_far_112 : decode cX11_far 112 = .ok (.goto 7, 3) := by decide +kernel
theorem tX11_far_112 {d : Nat} {l0 l1 l2 l3 l4 l5 l6 : Option Value} {v0 : Value} {m : jmM} {Q : Option Value → jmM → Prop} : AW d 174 112 [l0, l1, l2, l3, l4, l5, l6] [v0] m Q ↔ AW d 174 119 [l0, l1, l2, l3, l4, l5, l6] [v0] m Q := A_goto hB_X11_far dX11_far_112 (by decide)
theorem dX11_far_115 : decode cX11_far 115 = .ok (.iload 5, 2) := by decide +kernel
theorem tX11_far_115 {d : Nat} {l0 l1 l2 l3 l4 l6 : Option Value} {x : Int32} {m : jmM} {Q : Option Value → jmM → Prop} : AW d 174 115 [l0, l1, l2, l3, l4, some (.int x), l6] [] m Q ↔ AW d 174 117 [l0, l1, l2, l3, l4, some (.int x), l6] [.int x] m Q := A_iload hB_X11_far dX11_far_115 rfl
theorem dX11_far_117 : decode cX11_far 117 = .ok (.iconst 1, 1) := by decide +kernel
theorem tX11_far_117 {d : Nat} {l0 l1 l2 l3 l4 l5 l6 : Option Value} {v0 : Value} {m : jmM} {Q : Option Value → jmM → Prop} : AW d 174 117 [l0, l1, l2, l3, l4, l5, l6] [v0] m Q ↔ AW d 174 118 [l0, l1, l2, l3, l4, l5, l6] [.int 1, v0] m Q := A_iconst hB_X11_far dX11_far_117 (by decide)
theorem dX11_far_118 : decode cX11_far 118 = .ok (.isub, 1) := by decide +kernel
theorem tX11_far_118 {d : Nat} {l0 l1 l2 l3 l4 l5 l6 : Option Value} {x y : Int32} {m : jmM} {Q : Option Value → jmM → Prop} : AW d 174 118 [l0, l1, l2, l3, l4, l5, l6] [.int y, .int x] m Q ↔ AW d 174 119 [l0, l1, l2, l3, l4, l5, l6] [.int (x - y)] m Q := A_isub hB_X11_far dX11_far_118
theorem dX11_far_119 : decode cX11_far 119 = .ok (.ireturn, 1) := by decide +kernel
theorem tX11_far_119 {d : Nat} {l0 l1 l2 l3 l4 l5 l6 : Option Value} {x : Int32} {m : jmM} {Q : Option Value → jmM → Prop} : AW d 174 119 [l0, l1, l2, l3, l4, l5, l6] [.int x] m Q ↔ Q (some (.int x)) m := A_ireturn hB_X11_far dX11_far_119 hR_X11_far
theorem dX11_far_120 : decode cX11_far 120 = .ok (.iinc 5 1, 3) := by decide +kernel
theorem tX11_far_120 {d : Nat} {l0 l1 l2 l3 l4 l6 : Option Value} {x : Int32} {m : jmM} {Q : Option Value → jmM → Prop} : AW d 174 120 [l0, l1, l2, l3, l4, some (.int x), l6] [] m Q ↔ AW d 174 123 [l0, l1, l2, l3, jc1 l4, some (.int (x + 1)), l6] [] m Q := A_iinc hB_X11_far dX11_far_120 rfl (Nat.le_of_ble_eq_true rfl) (v := 1) (by decide) rfl
theorem dX11_far_123 : decode cX11_far 123 = .ok (.goto (-70), 3) := by decide +kernel
theorem tX11_far_123 {d : Nat} {l0 l1 l2 l3 l4 l5 l6 : Option Value} {m : jmM} {Q : Option Value → jmM → Prop} : AW d 174 123 [l0, l1, l2, l3, l4, l5, l6] [] m Q ↔ AW d 174 53 [l0, l1, l2, l3, l4, l5, l6] [] m Q := A_goto hB_X11_far dX11_far_123 (by decide)
theorem dX11_far_126 : decode cX11_far 126 = .ok (.bipush 100, 2) := by decide +kernel
theorem tX11_far_126 {d : Nat} {l0 l1 l2 l3 l4 l5 l6 : Option Value} {m : jmM} {Q : Option Value → jmM → Prop} : AW d 174 126 [l0, l1, l2, l3, l4, l5, l6] [] m Q ↔ AW d 174 128 [l0, l1, l2, l3, l4, l5, l6] [.int 100] m Q := A_bipush hB_X11_far dX11_far_126 rfl
theorem dX11_far_128 : decode cX11_far 128 = .ok (.ireturn, 1) := by decide +kernel
theorem tX11_far_128 {d : Nat} {l0 l1 l2 l3 l4 l5 l6 : Option Value} {x : Int32} {m : jmM} {Q : Option Value → jmM → Prop} : AW d 174 128 [l0, l1, l2, l3, l4, l5, l6] [.int x] m Q ↔ Q (some (.int x)) m := A_ireturn hB_X11_far dX11_far_128 hR_X11_far
theorem hB_X11_image : jB 175 = cX11_image := rfl
theorem hO_X11_image : jO 175 = 11 := rfl
theorem hR_X11_image : jRt 175 = (some .int) := rfl
theorem nX11_image (d : Nat) (x0 : Nat) (x1 : Int32) (m : jmM) (Q : Option Value → jmM → Prop) : CC (d + 1) 175 [.ref x0, .int x1] m Q ↔ AW d 175 0 [some (.ref x0), some (.int x1)] [] m Q := CC_body (Nat.le_of_ble_eq_true rfl)
theorem dX11_image_0 : decode cX11_image 0 = .ok (.aload_n 0, 1) := by decide +kernel
theorem tX11_image_0 {d : Nat} {l1 : Option Value} {x : Nat} {m : jmM} {Q : Option Value → jmM → Prop} : AW d 175 0 [some (.ref x), l1] [] m Q ↔ AW d 175 1 [some (.ref x), l1] [.ref x] m Q := A_aload_n hB_X11_image dX11_image_0 rfl
theorem dX11_image_1 : decode cX11_image 1 = .ok (.iload_n 1, 1) := by decide +kernel
theorem tX11_image_1 {d : Nat} {l0 : Option Value} {v0 : Value} {x : Int32} {m : jmM} {Q : Option Value → jmM → Prop} : AW d 175 1 [l0, some (.int x)] [v0] m Q ↔ AW d 175 2 [l0, some (.int x)] [.int x, v0] m Q := A_iload_n hB_X11_image dX11_image_1 rfl
theorem dX11_image_2 : decode cX11_image 2 = .ok (.invokevirtual 336, 3) := by decide +kernel
theorem tX11_image_2 {d : Nat} {l0 l1 : Option Value} {y0 : Value} {a : Nat} {m : jmM} {Q : Option Value → jmM → Prop} : AW d 175 2 [l0, l1] [y0, .ref a] m Q ↔ (mS m a).1 = 11 ∧ CC d 177 [.ref a, y0] m (jK d 175 5 [l0, l1] [] Q) := A_callV hB_X11_image dX11_image_2 hO_X11_image fS_11_336 ⟨Nat.le_of_ble_eq_true rfl, Nat.le_of_ble_eq_true rfl⟩ rfl rfl rfl
theorem dX11_image_5 : decode cX11_image 5 = .ok (.ifCond .ne 5, 3) := by decide +kernel
theorem tX11_image_5 {d : Nat} {l0 l1 : Option Value} {x : Int32} {m : jmM} {Q : Option Value → jmM → Prop} : AW d 175 5 [l0, l1] [.int x] m Q ↔ if x = 0 then AW d 175 8 [l0, l1] [] m Q else AW d 175 10 [l0, l1] [] m Q := A_if_ne hB_X11_image dX11_image_5 (by decide)
theorem dX11_image_8 : decode cX11_image 8 = .ok (.iconst (-1), 1) := by decide +kernel
theorem tX11_image_8 {d : Nat} {l0 l1 : Option Value} {m : jmM} {Q : Option Value → jmM → Prop} : AW d 175 8 [l0, l1] [] m Q ↔ AW d 175 9 [l0, l1] [.int (-1)] m Q := A_iconst hB_X11_image dX11_image_8 (by decide)
theorem dX11_image_9 : decode cX11_image 9 = .ok (.ireturn, 1) := by decide +kernel
theorem tX11_image_9 {d : Nat} {l0 l1 : Option Value} {x : Int32} {m : jmM} {Q : Option Value → jmM → Prop} : AW d 175 9 [l0, l1] [.int x] m Q ↔ Q (some (.int x)) m := A_ireturn hB_X11_image dX11_image_9 hR_X11_image
theorem dX11_image_10 : decode cX11_image 10 = .ok (.aload_n 0, 1) := by decide +kernel
theorem tX11_image_10 {d : Nat} {l1 : Option Value} {x : Nat} {m : jmM} {Q : Option Value → jmM → Prop} : AW d 175 10 [some (.ref x), l1] [] m Q ↔ AW d 175 11 [some (.ref x), l1] [.ref x] m Q := A_aload_n hB_X11_image dX11_image_10 rfl
theorem dX11_image_11 : decode cX11_image 11 = .ok (.getfield 65, 3) := by decide +kernel
theorem tX11_image_11 {d : Nat} {l0 l1 : Option Value} {a : Nat} {m : jmM} {Q : Option Value → jmM → Prop} : AW d 175 11 [l0, l1] [.ref a] m Q ↔ (mS m a).1 = 11 ∧ AW d 175 14 [l0, l1] [va_rf (mR m a 10)] m Q := A_getfield (f := fun m a => va_rf (mR m a 10)) hB_X11_image dX11_image_11 hO_X11_image fF_11_65 rfl
theorem dX11_image_14 : decode cX11_image 14 = .ok (.iload_n 1, 1) := by decide +kernel
theorem tX11_image_14 {d : Nat} {l0 : Option Value} {v0 : Value} {x : Int32} {m : jmM} {Q : Option Value → jmM → Prop} : AW d 175 14 [l0, some (.int x)] [v0] m Q ↔ AW d 175 15 [l0, some (.int x)] [.int x, v0] m Q := A_iload_n hB_X11_image dX11_image_14 rfl
theorem dX11_image_15 : decode cX11_image 15 = .ok (.aaload, 1) := by decide +kernel
theorem tX11_image_15 {d : Nat} {l0 l1 : Option Value} {i : Int32} {a : Nat} {m : jmM} {Q : Option Value → jmM → Prop} : AW d 175 15 [l0, l1] [.int i, .ref a] m Q ↔ (24 ≤ (mS m a).1 ∧ (mS m a).1 ≤ 26 ∧ jIx i (mS m a).2) ∧ AW d 175 16 [l0, l1] [va_rf (mR m a (jx i))] m Q := A_aaload hB_X11_image dX11_image_15
theorem dX11_image_16 : decode cX11_image 16 = .ok (.aload_n 0, 1) := by decide +kernel
theorem tX11_image_16 {d : Nat} {l1 : Option Value} {v0 : Value} {x : Nat} {m : jmM} {Q : Option Value → jmM → Prop} : AW d 175 16 [some (.ref x), l1] [v0] m Q ↔ AW d 175 17 [some (.ref x), l1] [.ref x, v0] m Q := A_aload_n hB_X11_image dX11_image_16 rfl
theorem dX11_image_17 : decode cX11_image 17 = .ok (.getfield 56, 3) := by decide +kernel
theorem tX11_image_17 {d : Nat} {l0 l1 : Option Value} {v1 : Value} {a : Nat} {m : jmM} {Q : Option Value → jmM → Prop} : AW d 175 17 [l0, l1] [.ref a, v1] m Q ↔ (mS m a).1 = 11 ∧ AW d 175 20 [l0, l1] [va_rf (mR m a 8), v1] m Q := A_getfield (f := fun m a => va_rf (mR m a 8)) hB_X11_image dX11_image_17 hO_X11_image fF_11_56 rfl
theorem dX11_image_20 : decode cX11_image 20 = .ok (.aload_n 0, 1) := by decide +kernel
theorem tX11_image_20 {d : Nat} {l1 : Option Value} {v0 v1 : Value} {x : Nat} {m : jmM} {Q : Option Value → jmM → Prop} : AW d 175 20 [some (.ref x), l1] [v0, v1] m Q ↔ AW d 175 21 [some (.ref x), l1] [.ref x, v0, v1] m Q := A_aload_n hB_X11_image dX11_image_20 rfl
theorem dX11_image_21 : decode cX11_image 21 = .ok (.getfield 49, 3) := by decide +kernel
theorem tX11_image_21 {d : Nat} {l0 l1 : Option Value} {v1 v2 : Value} {a : Nat} {m : jmM} {Q : Option Value → jmM → Prop} : AW d 175 21 [l0, l1] [.ref a, v1, v2] m Q ↔ (mS m a).1 = 11 ∧ AW d 175 24 [l0, l1] [.int (mI m a 7), v1, v2] m Q := A_getfield (f := fun m a => .int (mI m a 7)) hB_X11_image dX11_image_21 hO_X11_image fF_11_49 rfl
theorem dX11_image_24 : decode cX11_image 24 = .ok (.aload_n 0, 1) := by decide +kernel
theorem tX11_image_24 {d : Nat} {l1 : Option Value} {v0 v1 v2 : Value} {x : Nat} {m : jmM} {Q : Option Value → jmM → Prop} : AW d 175 24 [some (.ref x), l1] [v0, v1, v2] m Q ↔ AW d 175 25 [some (.ref x), l1] [.ref x, v0, v1, v2] m Q := A_aload_n hB_X11_image dX11_image_24 rfl
theorem dX11_image_25 : decode cX11_image 25 = .ok (.getfield 42, 3) := by decide +kernel
theorem tX11_image_25 {d : Nat} {l0 l1 : Option Value} {v1 v2 v3 : Value} {a : Nat} {m : jmM} {Q : Option Value → jmM → Prop} : AW d 175 25 [l0, l1] [.ref a, v1, v2, v3] m Q ↔ (mS m a).1 = 11 ∧ AW d 175 28 [l0, l1] [va_rf (mR m a 5), v1, v2, v3] m Q := A_getfield (f := fun m a => va_rf (mR m a 5)) hB_X11_image dX11_image_25 hO_X11_image fF_11_42 rfl
theorem dX11_image_28 : decode cX11_image 28 = .ok (.aload_n 0, 1) := by decide +kernel
theorem tX11_image_28 {d : Nat} {l1 : Option Value} {v0 v1 v2 v3 : Value} {x : Nat} {m : jmM} {Q : Option Value → jmM → Prop} : AW d 175 28 [some (.ref x), l1] [v0, v1, v2, v3] m Q ↔ AW d 175 29 [some (.ref x), l1] [.ref x, v0, v1, v2, v3] m Q := A_aload_n hB_X11_image dX11_image_28 rfl
theorem dX11_image_29 : decode cX11_image 29 = .ok (.getfield 46, 3) := by decide +kernel
theorem tX11_image_29 {d : Nat} {l0 l1 : Option Value} {v1 v2 v3 v4 : Value} {a : Nat} {m : jmM} {Q : Option Value → jmM → Prop} : AW d 175 29 [l0, l1] [.ref a, v1, v2, v3, v4] m Q ↔ (mS m a).1 = 11 ∧ AW d 175 32 [l0, l1] [va_rf (mR m a 6), v1, v2, v3, v4] m Q := A_getfield (f := fun m a => va_rf (mR m a 6)) hB_X11_image dX11_image_29 hO_X11_image fF_11_46 rfl
theorem dX11_image_32 : decode cX11_image 32 = .ok (.invokevirtual 339, 3) := by decide +kernel
theorem tX11_image_32 {d : Nat} {l0 l1 : Option Value} {y0 y1 y2 y3 : Value} {a : Nat} {m : jmM} {Q : Option Value → jmM → Prop} : AW d 175 32 [l0, l1] [y0, y1, y2, y3, .ref a] m Q ↔ (mS m a).1 = 2 ∧ CC d 19 [.ref a, y3, y2, y1, y0] m (jK d 175 35 [l0, l1] [] Q) := A_callV hB_X11_image dX11_image_32 hO_X11_image fS_11_339 ⟨Nat.le_of_ble_eq_true rfl, Nat.le_of_ble_eq_true rfl⟩ rfl rfl rfl
theorem dX11_image_35 : decode cX11_image 35 = .ok (.aload_n 0, 1) := by decide +kernel
theorem tX11_image_35 {d : Nat} {l1 : Option Value} {x : Nat} {m : jmM} {Q : Option Value → jmM → Prop} : AW d 175 35 [some (.ref x), l1] [] m Q ↔ AW d 175 36 [some (.ref x), l1] [.ref x] m Q := A_aload_n hB_X11_image dX11_image_35 rfl
theorem dX11_image_36 : decode cX11_image 36 = .ok (.getfield 56, 3) := by decide +kernel
theorem tX11_image_36 {d : Nat} {l0 l1 : Option Value} {a : Nat} {m : jmM} {Q : Option Value → jmM → Prop} : AW d 175 36 [l0, l1] [.ref a] m Q ↔ (mS m a).1 = 11 ∧ AW d 175 39 [l0, l1] [va_rf (mR m a 8)] m Q := A_getfield (f := fun m a => va_rf (mR m a 8)) hB_X11_image dX11_image_36 hO_X11_image fF_11_56 rfl
theorem dX11_image_39 : decode cX11_image 39 = .ok (.invokevirtual 170, 3) := by decide +kernel
theorem tX11_image_39 {d : Nat} {l0 l1 : Option Value} {a : Nat} {m : jmM} {Q : Option Value → jmM → Prop} : AW d 175 39 [l0, l1] [.ref a] m Q ↔ (mS m a).1 = 5 ∧ CC d 74 [.ref a] m (jK d 175 42 [l0, l1] [] Q) := A_callV hB_X11_image dX11_image_39 hO_X11_image fS_11_170 ⟨Nat.le_of_ble_eq_true rfl, Nat.le_of_ble_eq_true rfl⟩ rfl rfl rfl
theorem dX11_image_42 : decode cX11_image 42 = .ok (.ireturn, 1) := by decide +kernel
theorem tX11_image_42 {d : Nat} {l0 l1 : Option Value} {x : Int32} {m : jmM} {Q : Option Value → jmM → Prop} : AW d 175 42 [l0, l1] [.int x] m Q ↔ Q (some (.int x)) m := A_ireturn hB_X11_image dX11_image_42 hR_X11_image
theorem hB_X11_back : jB 176 = cX11_back := rfl
theorem hO_X11_back : jO 176 = 11 := rfl
theorem hR_X11_back : jRt 176 = (some .int) := rfl
theorem nX11_back (d : Nat) (x0 : Nat) (x1 : Int32) (m : jmM) (Q : Option Value → jmM → Prop) : CC (d + 1) 176 [.ref x0, .int x1] m Q ↔ AW d 176 0 [some (.ref x0), some (.int x1)] [] m Q := CC_body (Nat.le_of_ble_eq_true rfl)
theorem dX11_back_0 : decode cX11_back 0 = .ok (.aload_n 0, 1) := by decide +kernel
theorem tX11_back_0 {d : Nat} {l1 : Option Value} {x : Nat} {m : jmM} {Q : Option Value → jmM → Prop} : AW d 176 0 [some (.ref x), l1] [] m Q ↔ AW d 176 1 [some (.ref x), l1] [.ref x] m Q := A_aload_n hB_X11_back dX11_back_0 rfl
theorem dX11_back_1 : decode cX11_back 1 = .ok (.iload_n 1, 1) := by decide +kernel
theorem tX11_back_1 {d : Nat} {l0 : Option Value} {v0 : Value} {x : Int32} {m : jmM} {Q : Option Value → jmM → Prop} : AW d 176 1 [l0, some (.int x)] [v0] m Q ↔ AW d 176 2 [l0, some (.int x)] [.int x, v0] m Q := A_iload_n hB_X11_back dX11_back_1 rfl
theorem dX11_back_2 : decode cX11_back 2 = .ok (.invokevirtual 336, 3) := by decide +kernel
theorem tX11_back_2 {d : Nat} {l0 l1 : Option Value} {y0 : Value} {a : Nat} {m : jmM} {Q : Option Value → jmM → Prop} : AW d 176 2 [l0, l1] [y0, .ref a] m Q ↔ (mS m a).1 = 11 ∧ CC d 177 [.ref a, y0] m (jK d 176 5 [l0, l1] [] Q) := A_callV hB_X11_back dX11_back_2 hO_X11_back fS_11_336 ⟨Nat.le_of_ble_eq_true rfl, Nat.le_of_ble_eq_true rfl⟩ rfl rfl rfl
theorem dX11_back_5 : decode cX11_back 5 = .ok (.ifCond .eq 15, 3) := by decide +kernel
theorem tX11_back_5 {d : Nat} {l0 l1 : Option Value} {x : Int32} {m : jmM} {Q : Option Value → jmM → Prop} : AW d 176 5 [l0, l1] [.int x] m Q ↔ if x = 0 then AW d 176 20 [l0, l1] [] m Q else AW d 176 8 [l0, l1] [] m Q := A_if_eq hB_X11_back dX11_back_5 (by decide)
theorem dX11_back_8 : decode cX11_back 8 = .ok (.aload_n 0, 1) := by decide +kernel
theorem tX11_back_8 {d : Nat} {l1 : Option Value} {x : Nat} {m : jmM} {Q : Option Value → jmM → Prop} : AW d 176 8 [some (.ref x), l1] [] m Q ↔ AW d 176 9 [some (.ref x), l1] [.ref x] m Q := A_aload_n hB_X11_back dX11_back_8 rfl
theorem dX11_back_9 : decode cX11_back 9 = .ok (.getfield 65, 3) := by decide +kernel
theorem tX11_back_9 {d : Nat} {l0 l1 : Option Value} {a : Nat} {m : jmM} {Q : Option Value → jmM → Prop} : AW d 176 9 [l0, l1] [.ref a] m Q ↔ (mS m a).1 = 11 ∧ AW d 176 12 [l0, l1] [va_rf (mR m a 10)] m Q := A_getfield (f := fun m a => va_rf (mR m a 10)) hB_X11_back dX11_back_9 hO_X11_back fF_11_65 rfl
theorem dX11_back_12 : decode cX11_back 12 = .ok (.iload_n 1, 1) := by decide +kernel
theorem tX11_back_12 {d : Nat} {l0 : Option Value} {v0 : Value} {x : Int32} {m : jmM} {Q : Option Value → jmM → Prop} : AW d 176 12 [l0, some (.int x)] [v0] m Q ↔ AW d 176 13 [l0, some (.int x)] [.int x, v0] m Q := A_iload_n hB_X11_back dX11_back_12 rfl
theorem dX11_back_13 : decode cX11_back 13 = .ok (.aaload, 1) := by decide +kernel
theorem tX11_back_13 {d : Nat} {l0 l1 : Option Value} {i : Int32} {a : Nat} {m : jmM} {Q : Option Value → jmM → Prop} : AW d 176 13 [l0, l1] [.int i, .ref a] m Q ↔ (24 ≤ (mS m a).1 ∧ (mS m a).1 ≤ 26 ∧ jIx i (mS m a).2) ∧ AW d 176 14 [l0, l1] [va_rf (mR m a (jx i))] m Q := A_aaload hB_X11_back dX11_back_13
theorem dX11_back_14 : decode cX11_back 14 = .ok (.invokevirtual 343, 3) := by decide +kernel
theorem tX11_back_14 {d : Nat} {l0 l1 : Option Value} {a : Nat} {m : jmM} {Q : Option Value → jmM → Prop} : AW d 176 14 [l0, l1] [.ref a] m Q ↔ (mS m a).1 = 2 ∧ CC d 21 [.ref a] m (jK d 176 17 [l0, l1] [] Q) := A_callV hB_X11_back dX11_back_14 hO_X11_back fS_11_343 ⟨Nat.le_of_ble_eq_true rfl, Nat.le_of_ble_eq_true rfl⟩ rfl rfl rfl
theorem dX11_back_17 : decode cX11_back 17 = .ok (.ifCond .ne 5, 3) := by decide +kernel
theorem tX11_back_17 {d : Nat} {l0 l1 : Option Value} {x : Int32} {m : jmM} {Q : Option Value → jmM → Prop} : AW d 176 17 [l0, l1] [.int x] m Q ↔ if x = 0 then AW d 176 20 [l0, l1] [] m Q else AW d 176 22 [l0, l1] [] m Q := A_if_ne hB_X11_back dX11_back_17 (by decide)
theorem dX11_back_20 : decode cX11_back 20 = .ok (.iconst (-1), 1) := by decide +kernel
theorem tX11_back_20 {d : Nat} {l0 l1 : Option Value} {m : jmM} {Q : Option Value → jmM → Prop} : AW d 176 20 [l0, l1] [] m Q ↔ AW d 176 21 [l0, l1] [.int (-1)] m Q := A_iconst hB_X11_back dX11_back_20 (by decide)
theorem dX11_back_21 : decode cX11_back 21 = .ok (.ireturn, 1) := by decide +kernel
theorem tX11_back_21 {d : Nat} {l0 l1 : Option Value} {x : Int32} {m : jmM} {Q : Option Value → jmM → Prop} : AW d 176 21 [l0, l1] [.int x] m Q ↔ Q (some (.int x)) m := A_ireturn hB_X11_back dX11_back_21 hR_X11_back
theorem dX11_back_22 : decode cX11_back 22 = .ok (.aload_n 0, 1) := by decide +kernel
theorem tX11_back_22 {d : Nat} {l1 : Option Value} {x : Nat} {m : jmM} {Q : Option Value → jmM → Prop} : AW d 176 22 [some (.ref x), l1] [] m Q ↔ AW d 176 23 [some (.ref x), l1] [.ref x] m Q := A_aload_n hB_X11_back dX11_back_22 rfl
theorem dX11_back_23 : decode cX11_back 23 = .ok (.getfield 65, 3) := by decide +kernel
theorem tX11_back_23 {d : Nat} {l0 l1 : Option Value} {a : Nat} {m : jmM} {Q : Option Value → jmM → Prop} : AW d 176 23 [l0, l1] [.ref a] m Q ↔ (mS m a).1 = 11 ∧ AW d 176 26 [l0, l1] [va_rf (mR m a 10)] m Q := A_getfield (f := fun m a => va_rf (mR m a 10)) hB_X11_back dX11_back_23 hO_X11_back fF_11_65 rfl
theorem dX11_back_26 : decode cX11_back 26 = .ok (.iload_n 1, 1) := by decide +kernel
theorem tX11_back_26 {d : Nat} {l0 : Option Value} {v0 : Value} {x : Int32} {m : jmM} {Q : Option Value → jmM → Prop} : AW d 176 26 [l0, some (.int x)] [v0] m Q ↔ AW d 176 27 [l0, some (.int x)] [.int x, v0] m Q := A_iload_n hB_X11_back dX11_back_26 rfl
theorem dX11_back_27 : decode cX11_back 27 = .ok (.aaload, 1) := by decide +kernel
theorem tX11_back_27 {d : Nat} {l0 l1 : Option Value} {i : Int32} {a : Nat} {m : jmM} {Q : Option Value → jmM → Prop} : AW d 176 27 [l0, l1] [.int i, .ref a] m Q ↔ (24 ≤ (mS m a).1 ∧ (mS m a).1 ≤ 26 ∧ jIx i (mS m a).2) ∧ AW d 176 28 [l0, l1] [va_rf (mR m a (jx i))] m Q := A_aaload hB_X11_back dX11_back_27
theorem dX11_back_28 : decode cX11_back 28 = .ok (.aload_n 0, 1) := by decide +kernel
theorem tX11_back_28 {d : Nat} {l1 : Option Value} {v0 : Value} {x : Nat} {m : jmM} {Q : Option Value → jmM → Prop} : AW d 176 28 [some (.ref x), l1] [v0] m Q ↔ AW d 176 29 [some (.ref x), l1] [.ref x, v0] m Q := A_aload_n hB_X11_back dX11_back_28 rfl
theorem dX11_back_29 : decode cX11_back 29 = .ok (.getfield 56, 3) := by decide +kernel
theorem tX11_back_29 {d : Nat} {l0 l1 : Option Value} {v1 : Value} {a : Nat} {m : jmM} {Q : Option Value → jmM → Prop} : AW d 176 29 [l0, l1] [.ref a, v1] m Q ↔ (mS m a).1 = 11 ∧ AW d 176 32 [l0, l1] [va_rf (mR m a 8), v1] m Q := A_getfield (f := fun m a => va_rf (mR m a 8)) hB_X11_back dX11_back_29 hO_X11_back fF_11_56 rfl
theorem dX11_back_32 : decode cX11_back 32 = .ok (.aload_n 0, 1) := by decide +kernel
theorem tX11_back_32 {d : Nat} {l1 : Option Value} {v0 v1 : Value} {x : Nat} {m : jmM} {Q : Option Value → jmM → Prop} : AW d 176 32 [some (.ref x), l1] [v0, v1] m Q ↔ AW d 176 33 [some (.ref x), l1] [.ref x, v0, v1] m Q := A_aload_n hB_X11_back dX11_back_32 rfl
theorem dX11_back_33 : decode cX11_back 33 = .ok (.getfield 42, 3) := by decide +kernel
theorem tX11_back_33 {d : Nat} {l0 l1 : Option Value} {v1 v2 : Value} {a : Nat} {m : jmM} {Q : Option Value → jmM → Prop} : AW d 176 33 [l0, l1] [.ref a, v1, v2] m Q ↔ (mS m a).1 = 11 ∧ AW d 176 36 [l0, l1] [va_rf (mR m a 5), v1, v2] m Q := A_getfield (f := fun m a => va_rf (mR m a 5)) hB_X11_back dX11_back_33 hO_X11_back fF_11_42 rfl
theorem dX11_back_36 : decode cX11_back 36 = .ok (.aload_n 0, 1) := by decide +kernel
theorem tX11_back_36 {d : Nat} {l1 : Option Value} {v0 v1 v2 : Value} {x : Nat} {m : jmM} {Q : Option Value → jmM → Prop} : AW d 176 36 [some (.ref x), l1] [v0, v1, v2] m Q ↔ AW d 176 37 [some (.ref x), l1] [.ref x, v0, v1, v2] m Q := A_aload_n hB_X11_back dX11_back_36 rfl
theorem dX11_back_37 : decode cX11_back 37 = .ok (.getfield 46, 3) := by decide +kernel
theorem tX11_back_37 {d : Nat} {l0 l1 : Option Value} {v1 v2 v3 : Value} {a : Nat} {m : jmM} {Q : Option Value → jmM → Prop} : AW d 176 37 [l0, l1] [.ref a, v1, v2, v3] m Q ↔ (mS m a).1 = 11 ∧ AW d 176 40 [l0, l1] [va_rf (mR m a 6), v1, v2, v3] m Q := A_getfield (f := fun m a => va_rf (mR m a 6)) hB_X11_back dX11_back_37 hO_X11_back fF_11_46 rfl
theorem dX11_back_40 : decode cX11_back 40 = .ok (.invokevirtual 346, 3) := by decide +kernel
theorem tX11_back_40 {d : Nat} {l0 l1 : Option Value} {y0 y1 y2 : Value} {a : Nat} {m : jmM} {Q : Option Value → jmM → Prop} : AW d 176 40 [l0, l1] [y0, y1, y2, .ref a] m Q ↔ (mS m a).1 = 2 ∧ CC d 20 [.ref a, y2, y1, y0] m (jK d 176 43 [l0, l1] [] Q) := A_callV hB_X11_back dX11_back_40 hO_X11_back fS_11_346 ⟨Nat.le_of_ble_eq_true rfl, Nat.le_of_ble_eq_true rfl⟩ rfl rfl rfl
theorem dX11_back_43 : decode cX11_back 43 = .ok (.aload_n 0, 1) := by decide +kernel
theorem tX11_back_43 {d : Nat} {l1 : Option Value} {x : Nat} {m : jmM} {Q : Option Value → jmM → Prop} : AW d 176 43 [some (.ref x), l1] [] m Q ↔ AW d 176 44 [some (.ref x), l1] [.ref x] m Q := A_aload_n hB_X11_back dX11_back_43 rfl
theorem dX11_back_44 : decode cX11_back 44 = .ok (.aload_n 0, 1) := by decide +kernel
theorem tX11_back_44 {d : Nat} {l1 : Option Value} {v0 : Value} {x : Nat} {m : jmM} {Q : Option Value → jmM → Prop} : AW d 176 44 [some (.ref x), l1] [v0] m Q ↔ AW d 176 45 [some (.ref x), l1] [.ref x, v0] m Q := A_aload_n hB_X11_back dX11_back_44 rfl
theorem dX11_back_45 : decode cX11_back 45 = .ok (.getfield 65, 3) := by decide +kernel
theorem tX11_back_45 {d : Nat} {l0 l1 : Option Value} {v1 : Value} {a : Nat} {m : jmM} {Q : Option Value → jmM → Prop} : AW d 176 45 [l0, l1] [.ref a, v1] m Q ↔ (mS m a).1 = 11 ∧ AW d 176 48 [l0, l1] [va_rf (mR m a 10), v1] m Q := A_getfield (f := fun m a => va_rf (mR m a 10)) hB_X11_back dX11_back_45 hO_X11_back fF_11_65 rfl
theorem dX11_back_48 : decode cX11_back 48 = .ok (.iload_n 1, 1) := by decide +kernel
theorem tX11_back_48 {d : Nat} {l0 : Option Value} {v0 v1 : Value} {x : Int32} {m : jmM} {Q : Option Value → jmM → Prop} : AW d 176 48 [l0, some (.int x)] [v0, v1] m Q ↔ AW d 176 49 [l0, some (.int x)] [.int x, v0, v1] m Q := A_iload_n hB_X11_back dX11_back_48 rfl
theorem dX11_back_49 : decode cX11_back 49 = .ok (.aaload, 1) := by decide +kernel
theorem tX11_back_49 {d : Nat} {l0 l1 : Option Value} {v2 : Value} {i : Int32} {a : Nat} {m : jmM} {Q : Option Value → jmM → Prop} : AW d 176 49 [l0, l1] [.int i, .ref a, v2] m Q ↔ (24 ≤ (mS m a).1 ∧ (mS m a).1 ≤ 26 ∧ jIx i (mS m a).2) ∧ AW d 176 50 [l0, l1] [va_rf (mR m a (jx i)), v2] m Q := A_aaload hB_X11_back dX11_back_49
theorem dX11_back_50 : decode cX11_back 50 = .ok (.invokevirtual 350, 3) := by decide +kernel
theorem tX11_back_50 {d : Nat} {l0 l1 : Option Value} {v1 : Value} {a : Nat} {m : jmM} {Q : Option Value → jmM → Prop} : AW d 176 50 [l0, l1] [.ref a, v1] m Q ↔ (mS m a).1 = 2 ∧ CC d 22 [.ref a] m (jK d 176 53 [l0, l1] [v1] Q) := A_callV hB_X11_back dX11_back_50 hO_X11_back fS_11_350 ⟨Nat.le_of_ble_eq_true rfl, Nat.le_of_ble_eq_true rfl⟩ rfl rfl rfl
theorem dX11_back_53 : decode cX11_back 53 = .ok (.putfield 49, 3) := by decide +kernel
theorem tX11_back_53 {d : Nat} {l0 l1 : Option Value} {x : Int32} {a : Nat} {m : jmM} {Q : Option Value → jmM → Prop} : AW d 176 53 [l0, l1] [.int x, .ref a] m Q ↔ (mS m a).1 = 11 ∧ AW d 176 56 [l0, l1] [] (cI m a (jup (mI m a) 7 x)) Q := A_putI hB_X11_back dX11_back_53 hO_X11_back fF_11_49 rfl (fun h => Bool.noConfusion h)
theorem dX11_back_56 : decode cX11_back 56 = .ok (.aload_n 0, 1) := by decide +kernel
theorem tX11_back_56 {d : Nat} {l1 : Option Value} {x : Nat} {m : jmM} {Q : Option Value → jmM → Prop} : AW d 176 56 [some (.ref x), l1] [] m Q ↔ AW d 176 57 [some (.ref x), l1] [.ref x] m Q := A_aload_n hB_X11_back dX11_back_56 rfl
theorem dX11_back_57 : decode cX11_back 57 = .ok (.getfield 56, 3) := by decide +kernel
theorem tX11_back_57 {d : Nat} {l0 l1 : Option Value} {a : Nat} {m : jmM} {Q : Option Value → jmM → Prop} : AW d 176 57 [l0, l1] [.ref a] m Q ↔ (mS m a).1 = 11 ∧ AW d 176 60 [l0, l1] [va_rf (mR m a 8)] m Q := A_getfield (f := fun m a => va_rf (mR m a 8)) hB_X11_back dX11_back_57 hO_X11_back fF_11_56 rfl
theorem dX11_back_60 : decode cX11_back 60 = .ok (.invokevirtual 170, 3) := by decide +kernel
theorem tX11_back_60 {d : Nat} {l0 l1 : Option Value} {a : Nat} {m : jmM} {Q : Option Value → jmM → Prop} : AW d 176 60 [l0, l1] [.ref a] m Q ↔ (mS m a).1 = 5 ∧ CC d 74 [.ref a] m (jK d 176 63 [l0, l1] [] Q) := A_callV hB_X11_back dX11_back_60 hO_X11_back fS_11_170 ⟨Nat.le_of_ble_eq_true rfl, Nat.le_of_ble_eq_true rfl⟩ rfl rfl rfl
theorem dX11_back_63 : decode cX11_back 63 = .ok (.ireturn, 1) := by decide +kernel
theorem tX11_back_63 {d : Nat} {l0 l1 : Option Value} {x : Int32} {m : jmM} {Q : Option Value → jmM → Prop} : AW d 176 63 [l0, l1] [.int x] m Q ↔ Q (some (.int x)) m := A_ireturn hB_X11_back dX11_back_63 hR_X11_back
theorem hB_X11_isImage : jB 177 = cX11_isImage := rfl
theorem hO_X11_isImage : jO 177 = 11 := rfl
theorem hR_X11_isImage : jRt 177 = (some .boolean) := rfl
theorem nX11_isImage (d : Nat) (x0 : Nat) (x1 : Int32) (m : jmM) (Q : Option Value → jmM → Prop) : CC (d + 1) 177 [.ref x0, .int x1] m Q ↔ AW d 177 0 [some (.ref x0), some (.int x1)] [] m Q := CC_body (Nat.le_of_ble_eq_true rfl)
theorem dX11_isImage_0 : decode cX11_isImage 0 = .ok (.iload_n 1, 1) := by decide +kernel
theorem tX11_isImage_0 {d : Nat} {l0 : Option Value} {x : Int32} {m : jmM} {Q : Option Value → jmM → Prop} : AW d 177 0 [l0, some (.int x)] [] m Q ↔ AW d 177 1 [l0, some (.int x)] [.int x] m Q := A_iload_n hB_X11_isImage dX11_isImage_0 rfl
theorem dX11_isImage_1 : decode cX11_isImage 1 = .ok (.ifCond .lt 16, 3) := by decide +kernel
theorem tX11_isImage_1 {d : Nat} {l0 l1 : Option Value} {x : Int32} {m : jmM} {Q : Option Value → jmM → Prop} : AW d 177 1 [l0, l1] [.int x] m Q ↔ if x < 0 then AW d 177 17 [l0, l1] [] m Q else AW d 177 4 [l0, l1] [] m Q := A_if_lt hB_X11_isImage dX11_isImage_1 (by decide)
theorem dX11_isImage_4 : decode cX11_isImage 4 = .ok (.iload_n 1, 1) := by decide +kernel
theorem tX11_isImage_4 {d : Nat} {l0 : Option Value} {x : Int32} {m : jmM} {Q : Option Value → jmM → Prop} : AW d 177 4 [l0, some (.int x)] [] m Q ↔ AW d 177 5 [l0, some (.int x)] [.int x] m Q := A_iload_n hB_X11_isImage dX11_isImage_4 rfl
theorem dX11_isImage_5 : decode cX11_isImage 5 = .ok (.aload_n 0, 1) := by decide +kernel
theorem tX11_isImage_5 {d : Nat} {l1 : Option Value} {v0 : Value} {x : Nat} {m : jmM} {Q : Option Value → jmM → Prop} : AW d 177 5 [some (.ref x), l1] [v0] m Q ↔ AW d 177 6 [some (.ref x), l1] [.ref x, v0] m Q := A_aload_n hB_X11_isImage dX11_isImage_5 rfl
theorem dX11_isImage_6 : decode cX11_isImage 6 = .ok (.getfield 65, 3) := by decide +kernel
theorem tX11_isImage_6 {d : Nat} {l0 l1 : Option Value} {v1 : Value} {a : Nat} {m : jmM} {Q : Option Value → jmM → Prop} : AW d 177 6 [l0, l1] [.ref a, v1] m Q ↔ (mS m a).1 = 11 ∧ AW d 177 9 [l0, l1] [va_rf (mR m a 10), v1] m Q := A_getfield (f := fun m a => va_rf (mR m a 10)) hB_X11_isImage dX11_isImage_6 hO_X11_isImage fF_11_65 rfl
theorem dX11_isImage_9 : decode cX11_isImage 9 = .ok (.arraylength, 1) := by decide +kernel
theorem tX11_isImage_9 {d : Nat} {l0 l1 : Option Value} {v1 : Value} {a : Nat} {m : jmM} {Q : Option Value → jmM → Prop} : AW d 177 9 [l0, l1] [.ref a, v1] m Q ↔ ((20 ≤ (mS m a).1 ∧ (mS m a).1 ≤ 26) ∨ a = jScr) ∧ AW d 177 10 [l0, l1] [.int (nI (mS m a).2), v1] m Q := A_arraylength hB_X11_isImage dX11_isImage_9
theorem dX11_isImage_10 : decode cX11_isImage 10 = .ok (.if_icmp .ge 7, 3) := by decide +kernel
theorem tX11_isImage_10 {d : Nat} {l0 l1 : Option Value} {x y : Int32} {m : jmM} {Q : Option Value → jmM → Prop} : AW d 177 10 [l0, l1] [.int y, .int x] m Q ↔ if y ≤ x then AW d 177 17 [l0, l1] [] m Q else AW d 177 13 [l0, l1] [] m Q := A_icmp_ge hB_X11_isImage dX11_isImage_10 (by decide)
theorem dX11_isImage_13 : decode cX11_isImage 13 = .ok (.iconst 1, 1) := by decide +kernel
theorem tX11_isImage_13 {d : Nat} {l0 l1 : Option Value} {m : jmM} {Q : Option Value → jmM → Prop} : AW d 177 13 [l0, l1] [] m Q ↔ AW d 177 14 [l0, l1] [.int 1] m Q := A_iconst hB_X11_isImage dX11_isImage_13 (by decide)
theorem dX11_isImage_14 : decode cX11_isImage 14 = .ok (.goto 4, 3) := by decide +kernel
theorem tX11_isImage_14 {d : Nat} {l0 l1 : Option Value} {v0 : Value} {m : jmM} {Q : Option Value → jmM → Prop} : AW d 177 14 [l0, l1] [v0] m Q ↔ AW d 177 18 [l0, l1] [v0] m Q := A_goto hB_X11_isImage dX11_isImage_14 (by decide)
theorem dX11_isImage_17 : decode cX11_isImage 17 = .ok (.iconst 0, 1) := by decide +kernel
theorem tX11_isImage_17 {d : Nat} {l0 l1 : Option Value} {m : jmM} {Q : Option Value → jmM → Prop} : AW d 177 17 [l0, l1] [] m Q ↔ AW d 177 18 [l0, l1] [.int 0] m Q := A_iconst hB_X11_isImage dX11_isImage_17 (by decide)
theorem dX11_isImage_18 : decode cX11_isImage 18 = .ok (.ireturn, 1) := by decide +kernel
theorem tX11_isImage_18 {d : Nat} {l0 l1 : Option Value} {x : Int32} {m : jmM} {Q : Option Value → jmM → Prop} : AW d 177 18 [l0, l1] [.int x] m Q ↔ jBool x ∧ Q (some (.int x)) m := A_zreturn hB_X11_isImage dX11_isImage_18 hR_X11_isImage
theorem hB_X11_mostCoins : jB 178 = cX11_mostCoins := rfl
theorem hO_X11_mostCoins : jO 178 = 11 := rfl
theorem hR_X11_mostCoins : jRt 178 = (some .int) := rfl
theorem nX11_mostCoins (d : Nat) (x0 : Nat) (x1 : Nat) (m : jmM) (Q : Option Value → jmM → Prop) : CC (d + 1) 178 [.ref x0, .ref x1] m Q ↔ AW d 178 0 [some (.ref x0), some (.ref x1)] [] m Q := CC_body (Nat.le_of_ble_eq_true rfl)
theorem dX11_mostCoins_0 : decode cX11_mostCoins 0 = .ok (.aload_n 0, 1) := by decide +kernel
theorem tX11_mostCoins_0 {d : Nat} {l1 : Option Value} {x : Nat} {m : jmM} {Q : Option Value → jmM → Prop} : AW d 178 0 [some (.ref x), l1] [] m Q ↔ AW d 178 1 [some (.ref x), l1] [.ref x] m Q := A_aload_n hB_X11_mostCoins dX11_mostCoins_0 rfl
theorem dX11_mostCoins_1 : decode cX11_mostCoins 1 = .ok (.getfield 81, 3) := by decide +kernel
theorem tX11_mostCoins_1 {d : Nat} {l0 l1 : Option Value} {a : Nat} {m : jmM} {Q : Option Value → jmM → Prop} : AW d 178 1 [l0, l1] [.ref a] m Q ↔ (mS m a).1 = 11 ∧ AW d 178 4 [l0, l1] [va_rf (mR m a 13)] m Q := A_getfield (f := fun m a => va_rf (mR m a 13)) hB_X11_mostCoins dX11_mostCoins_1 hO_X11_mostCoins fF_11_81 rfl
theorem dX11_mostCoins_4 : decode cX11_mostCoins 4 = .ok (.aload_n 1, 1) := by decide +kernel
theorem tX11_mostCoins_4 {d : Nat} {l0 : Option Value} {v0 : Value} {x : Nat} {m : jmM} {Q : Option Value → jmM → Prop} : AW d 178 4 [l0, some (.ref x)] [v0] m Q ↔ AW d 178 5 [l0, some (.ref x)] [.ref x, v0] m Q := A_aload_n hB_X11_mostCoins dX11_mostCoins_4 rfl
theorem dX11_mostCoins_5 : decode cX11_mostCoins 5 = .ok (.aload_n 0, 1) := by decide +kernel
theorem tX11_mostCoins_5 {d : Nat} {l1 : Option Value} {v0 v1 : Value} {x : Nat} {m : jmM} {Q : Option Value → jmM → Prop} : AW d 178 5 [some (.ref x), l1] [v0, v1] m Q ↔ AW d 178 6 [some (.ref x), l1] [.ref x, v0, v1] m Q := A_aload_n hB_X11_mostCoins dX11_mostCoins_5 rfl
theorem dX11_mostCoins_6 : decode cX11_mostCoins 6 = .ok (.getfield 49, 3) := by decide +kernel
theorem tX11_mostCoins_6 {d : Nat} {l0 l1 : Option Value} {v1 v2 : Value} {a : Nat} {m : jmM} {Q : Option Value → jmM → Prop} : AW d 178 6 [l0, l1] [.ref a, v1, v2] m Q ↔ (mS m a).1 = 11 ∧ AW d 178 9 [l0, l1] [.int (mI m a 7), v1, v2] m Q := A_getfield (f := fun m a => .int (mI m a 7)) hB_X11_mostCoins dX11_mostCoins_6 hO_X11_mostCoins fF_11_49 rfl
theorem dX11_mostCoins_9 : decode cX11_mostCoins 9 = .ok (.aload_n 0, 1) := by decide +kernel
theorem tX11_mostCoins_9 {d : Nat} {l1 : Option Value} {v0 v1 v2 : Value} {x : Nat} {m : jmM} {Q : Option Value → jmM → Prop} : AW d 178 9 [some (.ref x), l1] [v0, v1, v2] m Q ↔ AW d 178 10 [some (.ref x), l1] [.ref x, v0, v1, v2] m Q := A_aload_n hB_X11_mostCoins dX11_mostCoins_9 rfl
theorem dX11_mostCoins_10 : decode cX11_mostCoins 10 = .ok (.getfield 71, 3) := by decide +kernel
theorem tX11_mostCoins_10 {d : Nat} {l0 l1 : Option Value} {v1 v2 v3 : Value} {a : Nat} {m : jmM} {Q : Option Value → jmM → Prop} : AW d 178 10 [l0, l1] [.ref a, v1, v2, v3] m Q ↔ (mS m a).1 = 11 ∧ AW d 178 13 [l0, l1] [va_rf (mR m a 11), v1, v2, v3] m Q := A_getfield (f := fun m a => va_rf (mR m a 11)) hB_X11_mostCoins dX11_mostCoins_10 hO_X11_mostCoins fF_11_71 rfl
theorem dX11_mostCoins_13 : decode cX11_mostCoins 13 = .ok (.aload_n 0, 1) := by decide +kernel
theorem tX11_mostCoins_13 {d : Nat} {l1 : Option Value} {v0 v1 v2 v3 : Value} {x : Nat} {m : jmM} {Q : Option Value → jmM → Prop} : AW d 178 13 [some (.ref x), l1] [v0, v1, v2, v3] m Q ↔ AW d 178 14 [some (.ref x), l1] [.ref x, v0, v1, v2, v3] m Q := A_aload_n hB_X11_mostCoins dX11_mostCoins_13 rfl
theorem dX11_mostCoins_14 : decode cX11_mostCoins 14 = .ok (.getfield 75, 3) := by decide +kernel
theorem tX11_mostCoins_14 {d : Nat} {l0 l1 : Option Value} {v1 v2 v3 v4 : Value} {a : Nat} {m : jmM} {Q : Option Value → jmM → Prop} : AW d 178 14 [l0, l1] [.ref a, v1, v2, v3, v4] m Q ↔ (mS m a).1 = 11 ∧ AW d 178 17 [l0, l1] [.int (mI m a 12), v1, v2, v3, v4] m Q := A_getfield (f := fun m a => .int (mI m a 12)) hB_X11_mostCoins dX11_mostCoins_14 hO_X11_mostCoins fF_11_75 rfl
theorem dX11_mostCoins_17 : decode cX11_mostCoins 17 = .ok (.invokevirtual 253, 3) := by decide +kernel
theorem tX11_mostCoins_17 {d : Nat} {l0 l1 : Option Value} {y0 y1 y2 y3 : Value} {a : Nat} {m : jmM} {Q : Option Value → jmM → Prop} : AW d 178 17 [l0, l1] [y0, y1, y2, y3, .ref a] m Q ↔ (mS m a).1 = 0 ∧ CC d 1 [.ref a, y3, y2, y1, y0] m (jK d 178 20 [l0, l1] [] Q) := A_callV hB_X11_mostCoins dX11_mostCoins_17 hO_X11_mostCoins fS_11_253 ⟨Nat.le_of_ble_eq_true rfl, Nat.le_of_ble_eq_true rfl⟩ rfl rfl rfl
theorem dX11_mostCoins_20 : decode cX11_mostCoins 20 = .ok (.aload_n 0, 1) := by decide +kernel
theorem tX11_mostCoins_20 {d : Nat} {l1 : Option Value} {x : Nat} {m : jmM} {Q : Option Value → jmM → Prop} : AW d 178 20 [some (.ref x), l1] [] m Q ↔ AW d 178 21 [some (.ref x), l1] [.ref x] m Q := A_aload_n hB_X11_mostCoins dX11_mostCoins_20 rfl
theorem dX11_mostCoins_21 : decode cX11_mostCoins 21 = .ok (.getfield 81, 3) := by decide +kernel
theorem tX11_mostCoins_21 {d : Nat} {l0 l1 : Option Value} {a : Nat} {m : jmM} {Q : Option Value → jmM → Prop} : AW d 178 21 [l0, l1] [.ref a] m Q ↔ (mS m a).1 = 11 ∧ AW d 178 24 [l0, l1] [va_rf (mR m a 13)] m Q := A_getfield (f := fun m a => va_rf (mR m a 13)) hB_X11_mostCoins dX11_mostCoins_21 hO_X11_mostCoins fF_11_81 rfl
theorem dX11_mostCoins_24 : decode cX11_mostCoins 24 = .ok (.invokevirtual 353, 3) := by decide +kernel
theorem tX11_mostCoins_24 {d : Nat} {l0 l1 : Option Value} {a : Nat} {m : jmM} {Q : Option Value → jmM → Prop} : AW d 178 24 [l0, l1] [.ref a] m Q ↔ (mS m a).1 = 0 ∧ CC d 4 [.ref a] m (jK d 178 27 [l0, l1] [] Q) := A_callV hB_X11_mostCoins dX11_mostCoins_24 hO_X11_mostCoins fS_11_353 ⟨Nat.le_of_ble_eq_true rfl, Nat.le_of_ble_eq_true rfl⟩ rfl rfl rfl
theorem dX11_mostCoins_27 : decode cX11_mostCoins 27 = .ok (.ireturn, 1) := by decide +kernel
theorem tX11_mostCoins_27 {d : Nat} {l0 l1 : Option Value} {x : Int32} {m : jmM} {Q : Option Value → jmM → Prop} : AW d 178 27 [l0, l1] [.int x] m Q ↔ Q (some (.int x)) m := A_ireturn hB_X11_mostCoins dX11_mostCoins_27 hR_X11_mostCoins
theorem hB_X11_rehearse : jB 179 = cX11_rehearse := rfl
theorem hO_X11_rehearse : jO 179 = 11 := rfl
theorem hR_X11_rehearse : jRt 179 = none := rfl
theorem nX11_rehearse (d : Nat) (x0 : Nat) (x1 : Nat) (x2 : Int32) (x3 : Int32) (m : jmM) (Q : Option Value → jmM → Prop) : CC (d + 1) 179 [.ref x0, .ref x1, .int x2, .int x3] m Q ↔ AW d 179 0 [some (.ref x0), some (.ref x1), some (.int x2), some (.int x3)] [] m Q := CC_body (Nat.le_of_ble_eq_true rfl)
theorem dX11_rehearse_0 : decode cX11_rehearse 0 = .ok (.aload_n 0, 1) := by decide +kernel
theorem tX11_rehearse_0 {d : Nat} {l1 l2 l3 : Option Value} {x : Nat} {m : jmM} {Q : Option Value → jmM → Prop} : AW d 179 0 [some (.ref x), l1, l2, l3] [] m Q ↔ AW d 179 1 [some (.ref x), l1, l2, l3] [.ref x] m Q := A_aload_n hB_X11_rehearse dX11_rehearse_0 rfl
theorem dX11_rehearse_1 : decode cX11_rehearse 1 = .ok (.getfield 60, 3) := by decide +kernel
theorem tX11_rehearse_1 {d : Nat} {l0 l1 l2 l3 : Option Value} {a : Nat} {m : jmM} {Q : Option Value → jmM → Prop} : AW d 179 1 [l0, l1, l2, l3] [.ref a] m Q ↔ (mS m a).1 = 11 ∧ AW d 179 4 [l0, l1, l2, l3] [va_rf (mR m a 9)] m Q := A_getfield (f := fun m a => va_rf (mR m a 9)) hB_X11_rehearse dX11_rehearse_1 hO_X11_rehearse fF_11_60 rfl
theorem dX11_rehearse_4 : decode cX11_rehearse 4 = .ok (.aload_n 0, 1) := by decide +kernel
theorem tX11_rehearse_4 {d : Nat} {l1 l2 l3 : Option Value} {v0 : Value} {x : Nat} {m : jmM} {Q : Option Value → jmM → Prop} : AW d 179 4 [some (.ref x), l1, l2, l3] [v0] m Q ↔ AW d 179 5 [some (.ref x), l1, l2, l3] [.ref x, v0] m Q := A_aload_n hB_X11_rehearse dX11_rehearse_4 rfl
theorem dX11_rehearse_5 : decode cX11_rehearse 5 = .ok (.getfield 56, 3) := by decide +kernel
theorem tX11_rehearse_5 {d : Nat} {l0 l1 l2 l3 : Option Value} {v1 : Value} {a : Nat} {m : jmM} {Q : Option Value → jmM → Prop} : AW d 179 5 [l0, l1, l2, l3] [.ref a, v1] m Q ↔ (mS m a).1 = 11 ∧ AW d 179 8 [l0, l1, l2, l3] [va_rf (mR m a 8), v1] m Q := A_getfield (f := fun m a => va_rf (mR m a 8)) hB_X11_rehearse dX11_rehearse_5 hO_X11_rehearse fF_11_56 rfl
theorem dX11_rehearse_8 : decode cX11_rehearse 8 = .ok (.invokevirtual 301, 3) := by decide +kernel
theorem tX11_rehearse_8 {d : Nat} {l0 l1 l2 l3 : Option Value} {y0 : Value} {a : Nat} {m : jmM} {Q : Option Value → jmM → Prop} : AW d 179 8 [l0, l1, l2, l3] [y0, .ref a] m Q ↔ (mS m a).1 = 5 ∧ CC d 49 [.ref a, y0] m (jK d 179 11 [l0, l1, l2, l3] [] Q) := A_callV hB_X11_rehearse dX11_rehearse_8 hO_X11_rehearse fS_11_301 ⟨Nat.le_of_ble_eq_true rfl, Nat.le_of_ble_eq_true rfl⟩ rfl rfl rfl
theorem dX11_rehearse_11 : decode cX11_rehearse 11 = .ok (.aload_n 0, 1) := by decide +kernel
theorem tX11_rehearse_11 {d : Nat} {l1 l2 l3 : Option Value} {x : Nat} {m : jmM} {Q : Option Value → jmM → Prop} : AW d 179 11 [some (.ref x), l1, l2, l3] [] m Q ↔ AW d 179 12 [some (.ref x), l1, l2, l3] [.ref x] m Q := A_aload_n hB_X11_rehearse dX11_rehearse_11 rfl
theorem dX11_rehearse_12 : decode cX11_rehearse 12 = .ok (.getfield 60, 3) := by decide +kernel
theorem tX11_rehearse_12 {d : Nat} {l0 l1 l2 l3 : Option Value} {a : Nat} {m : jmM} {Q : Option Value → jmM → Prop} : AW d 179 12 [l0, l1, l2, l3] [.ref a] m Q ↔ (mS m a).1 = 11 ∧ AW d 179 15 [l0, l1, l2, l3] [va_rf (mR m a 9)] m Q := A_getfield (f := fun m a => va_rf (mR m a 9)) hB_X11_rehearse dX11_rehearse_12 hO_X11_rehearse fF_11_60 rfl
theorem dX11_rehearse_15 : decode cX11_rehearse 15 = .ok (.aload_n 1, 1) := by decide +kernel
theorem tX11_rehearse_15 {d : Nat} {l0 l2 l3 : Option Value} {v0 : Value} {x : Nat} {m : jmM} {Q : Option Value → jmM → Prop} : AW d 179 15 [l0, some (.ref x), l2, l3] [v0] m Q ↔ AW d 179 16 [l0, some (.ref x), l2, l3] [.ref x, v0] m Q := A_aload_n hB_X11_rehearse dX11_rehearse_15 rfl
theorem dX11_rehearse_16 : decode cX11_rehearse 16 = .ok (.invokevirtual 162, 3) := by decide +kernel
theorem tX11_rehearse_16 {d : Nat} {l0 l1 l2 l3 : Option Value} {y0 : Value} {a : Nat} {m : jmM} {Q : Option Value → jmM → Prop} : AW d 179 16 [l0, l1, l2, l3] [y0, .ref a] m Q ↔ (mS m a).1 = 5 ∧ CC d 50 [.ref a, y0] m (jK d 179 19 [l0, l1, l2, l3] [] Q) := A_callV hB_X11_rehearse dX11_rehearse_16 hO_X11_rehearse fS_11_162 ⟨Nat.le_of_ble_eq_true rfl, Nat.le_of_ble_eq_true rfl⟩ rfl rfl rfl
theorem dX11_rehearse_19 : decode cX11_rehearse 19 = .ok (.aload_n 0, 1) := by decide +kernel
theorem tX11_rehearse_19 {d : Nat} {l1 l2 l3 : Option Value} {x : Nat} {m : jmM} {Q : Option Value → jmM → Prop} : AW d 179 19 [some (.ref x), l1, l2, l3] [] m Q ↔ AW d 179 20 [some (.ref x), l1, l2, l3] [.ref x] m Q := A_aload_n hB_X11_rehearse dX11_rehearse_19 rfl
theorem dX11_rehearse_20 : decode cX11_rehearse 20 = .ok (.getfield 60, 3) := by decide +kernel
theorem tX11_rehearse_20 {d : Nat} {l0 l1 l2 l3 : Option Value} {a : Nat} {m : jmM} {Q : Option Value → jmM → Prop} : AW d 179 20 [l0, l1, l2, l3] [.ref a] m Q ↔ (mS m a).1 = 11 ∧ AW d 179 23 [l0, l1, l2, l3] [va_rf (mR m a 9)] m Q := A_getfield (f := fun m a => va_rf (mR m a 9)) hB_X11_rehearse dX11_rehearse_20 hO_X11_rehearse fF_11_60 rfl
theorem dX11_rehearse_23 : decode cX11_rehearse 23 = .ok (.iload_n 3, 1) := by decide +kernel
theorem tX11_rehearse_23 {d : Nat} {l0 l1 l2 : Option Value} {v0 : Value} {x : Int32} {m : jmM} {Q : Option Value → jmM → Prop} : AW d 179 23 [l0, l1, l2, some (.int x)] [v0] m Q ↔ AW d 179 24 [l0, l1, l2, some (.int x)] [.int x, v0] m Q := A_iload_n hB_X11_rehearse dX11_rehearse_23 rfl
theorem dX11_rehearse_24 : decode cX11_rehearse 24 = .ok (.invokevirtual 356, 3) := by decide +kernel
theorem tX11_rehearse_24 {d : Nat} {l0 l1 l2 l3 : Option Value} {y0 : Value} {a : Nat} {m : jmM} {Q : Option Value → jmM → Prop} : AW d 179 24 [l0, l1, l2, l3] [y0, .ref a] m Q ↔ (mS m a).1 = 5 ∧ CC d 52 [.ref a, y0] m (jK d 179 27 [l0, l1, l2, l3] [] Q) := A_callV hB_X11_rehearse dX11_rehearse_24 hO_X11_rehearse fS_11_356 ⟨Nat.le_of_ble_eq_true rfl, Nat.le_of_ble_eq_true rfl⟩ rfl rfl rfl
theorem dX11_rehearse_27 : decode cX11_rehearse 27 = .ok (.aload_n 0, 1) := by decide +kernel
theorem tX11_rehearse_27 {d : Nat} {l1 l2 l3 : Option Value} {x : Nat} {m : jmM} {Q : Option Value → jmM → Prop} : AW d 179 27 [some (.ref x), l1, l2, l3] [] m Q ↔ AW d 179 28 [some (.ref x), l1, l2, l3] [.ref x] m Q := A_aload_n hB_X11_rehearse dX11_rehearse_27 rfl
theorem dX11_rehearse_28 : decode cX11_rehearse 28 = .ok (.getfield 60, 3) := by decide +kernel
theorem tX11_rehearse_28 {d : Nat} {l0 l1 l2 l3 : Option Value} {a : Nat} {m : jmM} {Q : Option Value → jmM → Prop} : AW d 179 28 [l0, l1, l2, l3] [.ref a] m Q ↔ (mS m a).1 = 11 ∧ AW d 179 31 [l0, l1, l2, l3] [va_rf (mR m a 9)] m Q := A_getfield (f := fun m a => va_rf (mR m a 9)) hB_X11_rehearse dX11_rehearse_28 hO_X11_rehearse fF_11_60 rfl
theorem dX11_rehearse_31 : decode cX11_rehearse 31 = .ok (.iload_n 2, 1) := by decide +kernel
theorem tX11_rehearse_31 {d : Nat} {l0 l1 l3 : Option Value} {v0 : Value} {x : Int32} {m : jmM} {Q : Option Value → jmM → Prop} : AW d 179 31 [l0, l1, some (.int x), l3] [v0] m Q ↔ AW d 179 32 [l0, l1, some (.int x), l3] [.int x, v0] m Q := A_iload_n hB_X11_rehearse dX11_rehearse_31 rfl
theorem dX11_rehearse_32 : decode cX11_rehearse 32 = .ok (.aload_n 0, 1) := by decide +kernel
theorem tX11_rehearse_32 {d : Nat} {l1 l2 l3 : Option Value} {v0 v1 : Value} {x : Nat} {m : jmM} {Q : Option Value → jmM → Prop} : AW d 179 32 [some (.ref x), l1, l2, l3] [v0, v1] m Q ↔ AW d 179 33 [some (.ref x), l1, l2, l3] [.ref x, v0, v1] m Q := A_aload_n hB_X11_rehearse dX11_rehearse_32 rfl
theorem dX11_rehearse_33 : decode cX11_rehearse 33 = .ok (.getfield 38, 3) := by decide +kernel
theorem tX11_rehearse_33 {d : Nat} {l0 l1 l2 l3 : Option Value} {v1 v2 : Value} {a : Nat} {m : jmM} {Q : Option Value → jmM → Prop} : AW d 179 33 [l0, l1, l2, l3] [.ref a, v1, v2] m Q ↔ (mS m a).1 = 11 ∧ AW d 179 36 [l0, l1, l2, l3] [va_rf (mR m a 4), v1, v2] m Q := A_getfield (f := fun m a => va_rf (mR m a 4)) hB_X11_rehearse dX11_rehearse_33 hO_X11_rehearse fF_11_38 rfl
theorem dX11_rehearse_36 : decode cX11_rehearse 36 = .ok (.invokevirtual 166, 3) := by decide +kernel
theorem tX11_rehearse_36 {d : Nat} {l0 l1 l2 l3 : Option Value} {y0 y1 : Value} {a : Nat} {m : jmM} {Q : Option Value → jmM → Prop} : AW d 179 36 [l0, l1, l2, l3] [y0, y1, .ref a] m Q ↔ (mS m a).1 = 5 ∧ CC d 53 [.ref a, y1, y0] m (jK d 179 39 [l0, l1, l2, l3] [] Q) := A_callV hB_X11_rehearse dX11_rehearse_36 hO_X11_rehearse fS_11_166 ⟨Nat.le_of_ble_eq_true rfl, Nat.le_of_ble_eq_true rfl⟩ rfl rfl rfl
theorem dX11_rehearse_39 : decode cX11_rehearse 39 = .ok (.pop, 1) := by decide +kernel
theorem tX11_rehearse_39 {d : Nat} {l0 l1 l2 l3 : Option Value} {x : Int32} {m : jmM} {Q : Option Value → jmM → Prop} : AW d 179 39 [l0, l1, l2, l3] [.int x] m Q ↔ AW d 179 40 [l0, l1, l2, l3] [] m Q := A_pop_i hB_X11_rehearse dX11_rehearse_39
theorem dX11_rehearse_40 : decode cX11_rehearse 40 = .ok (.return_, 1) := by decide +kernel
theorem tX11_rehearse_40 {d : Nat} {l0 l1 l2 l3 : Option Value} {m : jmM} {Q : Option Value → jmM → Prop} : AW d 179 40 [l0, l1, l2, l3] [] m Q ↔ Q none m := A_return hB_X11_rehearse dX11_rehearse_40 hR_X11_rehearse
theorem hB_X11_countBetween : jB 180 = cX11_countBetween := rfl
theorem hO_X11_countBetween : jO 180 = 11 := rfl
theorem hR_X11_countBetween : jRt 180 = (some .int) := rfl
theorem nX11_countBetween (d : Nat) (x0 : Nat) (x1 : Int32) (x2 : Int32) (x3 : Int32) (m : jmM) (Q : Option Value → jmM → Prop) : CC (d + 1) 180 [.ref x0, .int x1, .int x2, .int x3] m Q ↔ AW d 180 0 [some (.ref x0), some (.int x1), some (.int x2), some (.int x3), none, none] [] m Q := CC_body (Nat.le_of_ble_eq_true rfl)
theorem dX11_countBetween_0 : decode cX11_countBetween 0 = .ok (.iconst 0, 1) := by decide +kernel
theorem tX11_countBetween_0 {d : Nat} {l0 l1 l2 l3 l4 l5 : Option Value} {m : jmM} {Q : Option Value → jmM → Prop} : AW d 180 0 [l0, l1, l2, l3, l4, l5] [] m Q ↔ AW d 180 1 [l0, l1, l2, l3, l4, l5] [.int 0] m Q := A_iconst hB_X11_countBetween dX11_countBetween_0 (by decide)
theorem dX11_countBetween_1 : decode cX11_countBetween 1 = .ok (.istore 4, 2) := by decide +kernel
theorem tX11_countBetween_1 {d : Nat} {l0 l1 l2 l3 l4 l5 : Option Value} {x : Int32} {m : jmM} {Q : Option Value → jmM → Prop} : AW d 180 1 [l0, l1, l2, l3, l4, l5] [.int x] m Q ↔ AW d 180 3 [l0, l1, l2, jc1 l3, some (.int x), l5] [] m Q := A_istore hB_X11_countBetween dX11_countBetween_1 (Nat.le_of_ble_eq_true rfl) rfl
theorem dX11_countBetween_3 : decode cX11_countBetween 3 = .ok (.iconst 0, 1) := by decide +kernel
theorem tX11_countBetween_3 {d : Nat} {l0 l1 l2 l3 l4 l5 : Option Value} {m : jmM} {Q : Option Value → jmM → Prop} : AW d 180 3 [l0, l1, l2, l3, l4, l5] [] m Q ↔ AW d 180 4 [l0, l1, l2, l3, l4, l5] [.int 0] m Q := A_iconst hB_X11_countBetween dX11_countBetween_3 (by decide)
theorem dX11_countBetween_4 : decode cX11_countBetween 4 = .ok (.istore 5, 2) := by decide +kernel
theorem tX11_countBetween_4 {d : Nat} {l0 l1 l2 l3 l4 l5 : Option Value} {x : Int32} {m : jmM} {Q : Option Value → jmM → Prop} : AW d 180 4 [l0, l1, l2, l3, l4, l5] [.int x] m Q ↔ AW d 180 6 [l0, l1, l2, l3, jc1 l4, some (.int x)] [] m Q := A_istore hB_X11_countBetween dX11_countBetween_4 (Nat.le_of_ble_eq_true rfl) rfl
theorem dX11_countBetween_6 : decode cX11_countBetween 6 = .ok (.iload 5, 2) := by decide +kernel
theorem tX11_countBetween_6 {d : Nat} {l0 l1 l2 l3 l4 : Option Value} {x : Int32} {m : jmM} {Q : Option Value → jmM → Prop} : AW d 180 6 [l0, l1, l2, l3, l4, some (.int x)] [] m Q ↔ AW d 180 8 [l0, l1, l2, l3, l4, some (.int x)] [.int x] m Q := A_iload hB_X11_countBetween dX11_countBetween_6 rfl
theorem dX11_countBetween_8 : decode cX11_countBetween 8 = .ok (.iload_n 1, 1) := by decide +kernel
theorem tX11_countBetween_8 {d : Nat} {l0 l2 l3 l4 l5 : Option Value} {v0 : Value} {x : Int32} {m : jmM} {Q : Option Value → jmM → Prop} : AW d 180 8 [l0, some (.int x), l2, l3, l4, l5] [v0] m Q ↔ AW d 180 9 [l0, some (.int x), l2, l3, l4, l5] [.int x, v0] m Q := A_iload_n hB_X11_countBetween dX11_countBetween_8 rfl
theorem dX11_countBetween_9 : decode cX11_countBetween 9 = .ok (.if_icmp .ge 39, 3) := by decide +kernel
theorem tX11_countBetween_9 {d : Nat} {l0 l1 l2 l3 l4 l5 : Option Value} {x y : Int32} {m : jmM} {Q : Option Value → jmM → Prop} : AW d 180 9 [l0, l1, l2, l3, l4, l5] [.int y, .int x] m Q ↔ if y ≤ x then AW d 180 48 [l0, l1, l2, l3, l4, l5] [] m Q else AW d 180 12 [l0, l1, l2, l3, l4, l5] [] m Q := A_icmp_ge hB_X11_countBetween dX11_countBetween_9 (by decide)
theorem dX11_countBetween_12 : decode cX11_countBetween 12 = .ok (.iload 5, 2) := by decide +kernel
theorem tX11_countBetween_12 {d : Nat} {l0 l1 l2 l3 l4 : Option Value} {x : Int32} {m : jmM} {Q : Option Value → jmM → Prop} : AW d 180 12 [l0, l1, l2, l3, l4, some (.int x)] [] m Q ↔ AW d 180 14 [l0, l1, l2, l3, l4, some (.int x)] [.int x] m Q := A_iload hB_X11_countBetween dX11_countBetween_12 rfl
theorem dX11_countBetween_14 : decode cX11_countBetween 14 = .ok (.aload_n 0, 1) := by decide +kernel
theorem tX11_countBetween_14 {d : Nat} {l1 l2 l3 l4 l5 : Option Value} {v0 : Value} {x : Nat} {m : jmM} {Q : Option Value → jmM → Prop} : AW d 180 14 [some (.ref x), l1, l2, l3, l4, l5] [v0] m Q ↔ AW d 180 15 [some (.ref x), l1, l2, l3, l4, l5] [.ref x, v0] m Q := A_aload_n hB_X11_countBetween dX11_countBetween_14 rfl
theorem dX11_countBetween_15 : decode cX11_countBetween 15 = .ok (.arraylength, 1) := by decide +kernel
theorem tX11_countBetween_15 {d : Nat} {l0 l1 l2 l3 l4 l5 : Option Value} {v1 : Value} {a : Nat} {m : jmM} {Q : Option Value → jmM → Prop} : AW d 180 15 [l0, l1, l2, l3, l4, l5] [.ref a, v1] m Q ↔ ((20 ≤ (mS m a).1 ∧ (mS m a).1 ≤ 26) ∨ a = jScr) ∧ AW d 180 16 [l0, l1, l2, l3, l4, l5] [.int (nI (mS m a).2), v1] m Q := A_arraylength hB_X11_countBetween dX11_countBetween_15
theorem dX11_countBetween_16 : decode cX11_countBetween 16 = .ok (.if_icmp .ge 32, 3) := by decide +kernel
theorem tX11_countBetween_16 {d : Nat} {l0 l1 l2 l3 l4 l5 : Option Value} {x y : Int32} {m : jmM} {Q : Option Value → jmM → Prop} : AW d 180 16 [l0, l1, l2, l3, l4, l5] [.int y, .int x] m Q ↔ if y ≤ x then AW d 180 48 [l0, l1, l2, l3, l4, l5] [] m Q else AW d 180 19 [l0, l1, l2, l3, l4, l5] [] m Q := A_icmp_ge hB_X11_countBetween dX11_countBetween_16 (by decide)
theorem dX11_countBetween_19 : decode cX11_countBetween 19 = .ok (.aload_n 0, 1) := by decide +kernel
theorem tX11_countBetween_19 {d : Nat} {l1 l2 l3 l4 l5 : Option Value} {x : Nat} {m : jmM} {Q : Option Value → jmM → Prop} : AW d 180 19 [some (.ref x), l1, l2, l3, l4, l5] [] m Q ↔ AW d 180 20 [some (.ref x), l1, l2, l3, l4, l5] [.ref x] m Q := A_aload_n hB_X11_countBetween dX11_countBetween_19 rfl
theorem dX11_countBetween_20 : decode cX11_countBetween 20 = .ok (.iload 5, 2) := by decide +kernel
theorem tX11_countBetween_20 {d : Nat} {l0 l1 l2 l3 l4 : Option Value} {v0 : Value} {x : Int32} {m : jmM} {Q : Option Value → jmM → Prop} : AW d 180 20 [l0, l1, l2, l3, l4, some (.int x)] [v0] m Q ↔ AW d 180 22 [l0, l1, l2, l3, l4, some (.int x)] [.int x, v0] m Q := A_iload hB_X11_countBetween dX11_countBetween_20 rfl
theorem dX11_countBetween_22 : decode cX11_countBetween 22 = .ok (.laload, 1) := by decide +kernel
theorem tX11_countBetween_22 {d : Nat} {l0 l1 l2 l3 l4 l5 : Option Value} {i : Int32} {a : Nat} {m : jmM} {Q : Option Value → jmM → Prop} : AW d 180 22 [l0, l1, l2, l3, l4, l5] [.int i, .ref a] m Q ↔ ((mS m a).1 = 21 ∧ jIx i (mS m a).2) ∧ AW d 180 23 [l0, l1, l2, l3, l4, l5] [.long (mL m a (jx i))] m Q := A_laload hB_X11_countBetween dX11_countBetween_22
theorem dX11_countBetween_23 : decode cX11_countBetween 23 = .ok (.iload_n 2, 1) := by decide +kernel
theorem tX11_countBetween_23 {d : Nat} {l0 l1 l3 l4 l5 : Option Value} {v0 : Value} {x : Int32} {m : jmM} {Q : Option Value → jmM → Prop} : AW d 180 23 [l0, l1, some (.int x), l3, l4, l5] [v0] m Q ↔ AW d 180 24 [l0, l1, some (.int x), l3, l4, l5] [.int x, v0] m Q := A_iload_n hB_X11_countBetween dX11_countBetween_23 rfl
theorem dX11_countBetween_24 : decode cX11_countBetween 24 = .ok (.i2l, 1) := by decide +kernel
theorem tX11_countBetween_24 {d : Nat} {l0 l1 l2 l3 l4 l5 : Option Value} {v1 : Value} {x : Int32} {m : jmM} {Q : Option Value → jmM → Prop} : AW d 180 24 [l0, l1, l2, l3, l4, l5] [.int x, v1] m Q ↔ AW d 180 25 [l0, l1, l2, l3, l4, l5] [.long x.toInt64, v1] m Q := A_i2l hB_X11_countBetween dX11_countBetween_24
theorem dX11_countBetween_25 : decode cX11_countBetween 25 = .ok (.lcmp, 1) := by decide +kernel
theorem tX11_countBetween_25 {d : Nat} {l0 l1 l2 l3 l4 l5 : Option Value} {x y : Int64} {m : jmM} {Q : Option Value → jmM → Prop} : AW d 180 25 [l0, l1, l2, l3, l4, l5] [.long y, .long x] m Q ↔ AW d 180 26 [l0, l1, l2, l3, l4, l5] [.int (lg_cmp x y)] m Q := A_lcmp hB_X11_countBetween dX11_countBetween_25
theorem dX11_countBetween_26 : decode cX11_countBetween 26 = .ok (.ifCond .lt 16, 3) := by decide +kernel
theorem tX11_countBetween_26 {d : Nat} {l0 l1 l2 l3 l4 l5 : Option Value} {x : Int32} {m : jmM} {Q : Option Value → jmM → Prop} : AW d 180 26 [l0, l1, l2, l3, l4, l5] [.int x] m Q ↔ if x < 0 then AW d 180 42 [l0, l1, l2, l3, l4, l5] [] m Q else AW d 180 29 [l0, l1, l2, l3, l4, l5] [] m Q := A_if_lt hB_X11_countBetween dX11_countBetween_26 (by decide)
theorem dX11_countBetween_29 : decode cX11_countBetween 29 = .ok (.aload_n 0, 1) := by decide +kernel
theorem tX11_countBetween_29 {d : Nat} {l1 l2 l3 l4 l5 : Option Value} {x : Nat} {m : jmM} {Q : Option Value → jmM → Prop} : AW d 180 29 [some (.ref x), l1, l2, l3, l4, l5] [] m Q ↔ AW d 180 30 [some (.ref x), l1, l2, l3, l4, l5] [.ref x] m Q := A_aload_n hB_X11_countBetween dX11_countBetween_29 rfl
theorem dX11_countBetween_30 : decode cX11_countBetween 30 = .ok (.iload 5, 2) := by decide +kernel
theorem tX11_countBetween_30 {d : Nat} {l0 l1 l2 l3 l4 : Option Value} {v0 : Value} {x : Int32} {m : jmM} {Q : Option Value → jmM → Prop} : AW d 180 30 [l0, l1, l2, l3, l4, some (.int x)] [v0] m Q ↔ AW d 180 32 [l0, l1, l2, l3, l4, some (.int x)] [.int x, v0] m Q := A_iload hB_X11_countBetween dX11_countBetween_30 rfl
theorem dX11_countBetween_32 : decode cX11_countBetween 32 = .ok (.laload, 1) := by decide +kernel
theorem tX11_countBetween_32 {d : Nat} {l0 l1 l2 l3 l4 l5 : Option Value} {i : Int32} {a : Nat} {m : jmM} {Q : Option Value → jmM → Prop} : AW d 180 32 [l0, l1, l2, l3, l4, l5] [.int i, .ref a] m Q ↔ ((mS m a).1 = 21 ∧ jIx i (mS m a).2) ∧ AW d 180 33 [l0, l1, l2, l3, l4, l5] [.long (mL m a (jx i))] m Q := A_laload hB_X11_countBetween dX11_countBetween_32
theorem dX11_countBetween_33 : decode cX11_countBetween 33 = .ok (.iload_n 3, 1) := by decide +kernel
theorem tX11_countBetween_33 {d : Nat} {l0 l1 l2 l4 l5 : Option Value} {v0 : Value} {x : Int32} {m : jmM} {Q : Option Value → jmM → Prop} : AW d 180 33 [l0, l1, l2, some (.int x), l4, l5] [v0] m Q ↔ AW d 180 34 [l0, l1, l2, some (.int x), l4, l5] [.int x, v0] m Q := A_iload_n hB_X11_countBetween dX11_countBetween_33 rfl
theorem dX11_countBetween_34 : decode cX11_countBetween 34 = .ok (.i2l, 1) := by decide +kernel
theorem tX11_countBetween_34 {d : Nat} {l0 l1 l2 l3 l4 l5 : Option Value} {v1 : Value} {x : Int32} {m : jmM} {Q : Option Value → jmM → Prop} : AW d 180 34 [l0, l1, l2, l3, l4, l5] [.int x, v1] m Q ↔ AW d 180 35 [l0, l1, l2, l3, l4, l5] [.long x.toInt64, v1] m Q := A_i2l hB_X11_countBetween dX11_countBetween_34
theorem dX11_countBetween_35 : decode cX11_countBetween 35 = .ok (.lcmp, 1) := by decide +kernel
theorem tX11_countBetween_35 {d : Nat} {l0 l1 l2 l3 l4 l5 : Option Value} {x y : Int64} {m : jmM} {Q : Option Value → jmM → Prop} : AW d 180 35 [l0, l1, l2, l3, l4, l5] [.long y, .long x] m Q ↔ AW d 180 36 [l0, l1, l2, l3, l4, l5] [.int (lg_cmp x y)] m Q := A_lcmp hB_X11_countBetween dX11_countBetween_35
theorem dX11_countBetween_36 : decode cX11_countBetween 36 = .ok (.ifCond .gt 6, 3) := by decide +kernel
theorem tX11_countBetween_36 {d : Nat} {l0 l1 l2 l3 l4 l5 : Option Value} {x : Int32} {m : jmM} {Q : Option Value → jmM → Prop} : AW d 180 36 [l0, l1, l2, l3, l4, l5] [.int x] m Q ↔ if 0 < x then AW d 180 42 [l0, l1, l2, l3, l4, l5] [] m Q else AW d 180 39 [l0, l1, l2, l3, l4, l5] [] m Q := A_if_gt hB_X11_countBetween dX11_countBetween_36 (by decide)
theorem dX11_countBetween_39 : decode cX11_countBetween 39 = .ok (.iinc 4 1, 3) := by decide +kernel
theorem tX11_countBetween_39 {d : Nat} {l0 l1 l2 l3 l5 : Option Value} {x : Int32} {m : jmM} {Q : Option Value → jmM → Prop} : AW d 180 39 [l0, l1, l2, l3, some (.int x), l5] [] m Q ↔ AW d 180 42 [l0, l1, l2, jc1 l3, some (.int (x + 1)), l5] [] m Q := A_iinc hB_X11_countBetween dX11_countBetween_39 rfl (Nat.le_of_ble_eq_true rfl) (v := 1) (by decide) rfl
theorem dX11_countBetween_42 : decode cX11_countBetween 42 = .ok (.iinc 5 1, 3) := by decide +kernel
theorem tX11_countBetween_42 {d : Nat} {l0 l1 l2 l3 l4 : Option Value} {x : Int32} {m : jmM} {Q : Option Value → jmM → Prop} : AW d 180 42 [l0, l1, l2, l3, l4, some (.int x)] [] m Q ↔ AW d 180 45 [l0, l1, l2, l3, jc1 l4, some (.int (x + 1))] [] m Q := A_iinc hB_X11_countBetween dX11_countBetween_42 rfl (Nat.le_of_ble_eq_true rfl) (v := 1) (by decide) rfl
theorem dX11_countBetween_45 : decode cX11_countBetween 45 = .ok (.goto (-39), 3) := by decide +kernel
theorem tX11_countBetween_45 {d : Nat} {l0 l1 l2 l3 l4 l5 : Option Value} {m : jmM} {Q : Option Value → jmM → Prop} : AW d 180 45 [l0, l1, l2, l3, l4, l5] [] m Q ↔ AW d 180 6 [l0, l1, l2, l3, l4, l5] [] m Q := A_goto hB_X11_countBetween dX11_countBetween_45 (by decide)
theorem dX11_countBetween_48 : decode cX11_countBetween 48 = .ok (.iload 4, 2) := by decide +kernel
theorem tX11_countBetween_48 {d : Nat} {l0 l1 l2 l3 l5 : Option Value} {x : Int32} {m : jmM} {Q : Option Value → jmM → Prop} : AW d 180 48 [l0, l1, l2, l3, some (.int x), l5] [] m Q ↔ AW d 180 50 [l0, l1, l2, l3, some (.int x), l5] [.int x] m Q := A_iload hB_X11_countBetween dX11_countBetween_48 rfl
theorem dX11_countBetween_50 : decode cX11_countBetween 50 = .ok (.ireturn, 1) := by decide +kernel
theorem tX11_countBetween_50 {d : Nat} {l0 l1 l2 l3 l4 l5 : Option Value} {x : Int32} {m : jmM} {Q : Option Value → jmM → Prop} : AW d 180 50 [l0, l1, l2, l3, l4, l5] [.int x] m Q ↔ Q (some (.int x)) m := A_ireturn hB_X11_countBetween dX11_countBetween_50 hR_X11_countBetween
theorem hB_X11_replace : jB 181 = cX11_replace := rfl
theorem hO_X11_replace : jO 181 = 11 := rfl
theorem hR_X11_replace : jRt 181 = (some .int) := rfl
theorem nX11_replace (d : Nat) (x0 : Nat) (x1 : Int32) (x2 : Int32) (m : jmM) (Q : Option Value → jmM → Prop) : CC (d + 1) 181 [.ref x0, .int x1, .int x2] m Q ↔ AW d 181 0 [some (.ref x0), some (.int x1), some (.int x2), none] [] m Q := CC_body (Nat.le_of_ble_eq_true rfl)
theorem dX11_replace_0 : decode cX11_replace 0 = .ok (.iload_n 1, 1) := by decide +kernel
theorem tX11_replace_0 {d : Nat} {l0 l2 l3 : Option Value} {x : Int32} {m : jmM} {Q : Option Value → jmM → Prop} : AW d 181 0 [l0, some (.int x), l2, l3] [] m Q ↔ AW d 181 1 [l0, some (.int x), l2, l3] [.int x] m Q := A_iload_n hB_X11_replace dX11_replace_0 rfl
theorem dX11_replace_1 : decode cX11_replace 1 = .ok (.ifCond .lt 9, 3) := by decide +kernel
theorem tX11_replace_1 {d : Nat} {l0 l1 l2 l3 : Option Value} {x : Int32} {m : jmM} {Q : Option Value → jmM → Prop} : AW d 181 1 [l0, l1, l2, l3] [.int x] m Q ↔ if x < 0 then AW d 181 10 [l0, l1, l2, l3] [] m Q else AW d 181 4 [l0, l1, l2, l3] [] m Q := A_if_lt hB_X11_replace dX11_replace_1 (by decide)
theorem dX11_replace_4 : decode cX11_replace 4 = .ok (.iload_n 1, 1) := by decide +kernel
theorem tX11_replace_4 {d : Nat} {l0 l2 l3 : Option Value} {x : Int32} {m : jmM} {Q : Option Value → jmM → Prop} : AW d 181 4 [l0, some (.int x), l2, l3] [] m Q ↔ AW d 181 5 [l0, some (.int x), l2, l3] [.int x] m Q := A_iload_n hB_X11_replace dX11_replace_4 rfl
theorem dX11_replace_5 : decode cX11_replace 5 = .ok (.aload_n 0, 1) := by decide +kernel
theorem tX11_replace_5 {d : Nat} {l1 l2 l3 : Option Value} {v0 : Value} {x : Nat} {m : jmM} {Q : Option Value → jmM → Prop} : AW d 181 5 [some (.ref x), l1, l2, l3] [v0] m Q ↔ AW d 181 6 [some (.ref x), l1, l2, l3] [.ref x, v0] m Q := A_aload_n hB_X11_replace dX11_replace_5 rfl
theorem dX11_replace_6 : decode cX11_replace 6 = .ok (.arraylength, 1) := by decide +kernel
theorem tX11_replace_6 {d : Nat} {l0 l1 l2 l3 : Option Value} {v1 : Value} {a : Nat} {m : jmM} {Q : Option Value → jmM → Prop} : AW d 181 6 [l0, l1, l2, l3] [.ref a, v1] m Q ↔ ((20 ≤ (mS m a).1 ∧ (mS m a).1 ≤ 26) ∨ a = jScr) ∧ AW d 181 7 [l0, l1, l2, l3] [.int (nI (mS m a).2), v1] m Q := A_arraylength hB_X11_replace dX11_replace_6
theorem dX11_replace_7 : decode cX11_replace 7 = .ok (.if_icmp .lt 5, 3) := by decide +kernel
theorem tX11_replace_7 {d : Nat} {l0 l1 l2 l3 : Option Value} {x y : Int32} {m : jmM} {Q : Option Value → jmM → Prop} : AW d 181 7 [l0, l1, l2, l3] [.int y, .int x] m Q ↔ if x < y then AW d 181 12 [l0, l1, l2, l3] [] m Q else AW d 181 10 [l0, l1, l2, l3] [] m Q := A_icmp_lt hB_X11_replace dX11_replace_7 (by decide)
theorem dX11_replace_10 : decode cX11_replace 10 = .ok (.iconst (-1), 1) := by decide +kernel
theorem tX11_replace_10 {d : Nat} {l0 l1 l2 l3 : Option Value} {m : jmM} {Q : Option Value → jmM → Prop} : AW d 181 10 [l0, l1, l2, l3] [] m Q ↔ AW d 181 11 [l0, l1, l2, l3] [.int (-1)] m Q := A_iconst hB_X11_replace dX11_replace_10 (by decide)
theorem dX11_replace_11 : decode cX11_replace 11 = .ok (.ireturn, 1) := by decide +kernel
theorem tX11_replace_11 {d : Nat} {l0 l1 l2 l3 : Option Value} {x : Int32} {m : jmM} {Q : Option Value → jmM → Prop} : AW d 181 11 [l0, l1, l2, l3] [.int x] m Q ↔ Q (some (.int x)) m := A_ireturn hB_X11_replace dX11_replace_11 hR_X11_replace
theorem dX11_replace_12 : decode cX11_replace 12 = .ok (.aload_n 0, 1) := by decide +kernel
theorem tX11_replace_12 {d : Nat} {l1 l2 l3 : Option Value} {x : Nat} {m : jmM} {Q : Option Value → jmM → Prop} : AW d 181 12 [some (.ref x), l1, l2, l3] [] m Q ↔ AW d 181 13 [some (.ref x), l1, l2, l3] [.ref x] m Q := A_aload_n hB_X11_replace dX11_replace_12 rfl
theorem dX11_replace_13 : decode cX11_replace 13 = .ok (.iload_n 1, 1) := by decide +kernel
theorem tX11_replace_13 {d : Nat} {l0 l2 l3 : Option Value} {v0 : Value} {x : Int32} {m : jmM} {Q : Option Value → jmM → Prop} : AW d 181 13 [l0, some (.int x), l2, l3] [v0] m Q ↔ AW d 181 14 [l0, some (.int x), l2, l3] [.int x, v0] m Q := A_iload_n hB_X11_replace dX11_replace_13 rfl
theorem dX11_replace_14 : decode cX11_replace 14 = .ok (.iaload, 1) := by decide +kernel
theorem tX11_replace_14 {d : Nat} {l0 l1 l2 l3 : Option Value} {i : Int32} {a : Nat} {m : jmM} {Q : Option Value → jmM → Prop} : AW d 181 14 [l0, l1, l2, l3] [.int i, .ref a] m Q ↔ (((mS m a).1 = 20 ∨ a = jScr) ∧ jIx i (mS m a).2) ∧ AW d 181 15 [l0, l1, l2, l3] [.int (mI m a (jx i))] m Q := A_iaload hB_X11_replace dX11_replace_14
theorem dX11_replace_15 : decode cX11_replace 15 = .ok (.istore_n 3, 1) := by decide +kernel
theorem tX11_replace_15 {d : Nat} {l0 l1 l2 l3 : Option Value} {x : Int32} {m : jmM} {Q : Option Value → jmM → Prop} : AW d 181 15 [l0, l1, l2, l3] [.int x] m Q ↔ AW d 181 16 [l0, l1, jc1 l2, some (.int x)] [] m Q := A_istore_n hB_X11_replace dX11_replace_15 (Nat.le_of_ble_eq_true rfl) rfl
theorem dX11_replace_16 : decode cX11_replace 16 = .ok (.aload_n 0, 1) := by decide +kernel
theorem tX11_replace_16 {d : Nat} {l1 l2 l3 : Option Value} {x : Nat} {m : jmM} {Q : Option Value → jmM → Prop} : AW d 181 16 [some (.ref x), l1, l2, l3] [] m Q ↔ AW d 181 17 [some (.ref x), l1, l2, l3] [.ref x] m Q := A_aload_n hB_X11_replace dX11_replace_16 rfl
theorem dX11_replace_17 : decode cX11_replace 17 = .ok (.iload_n 1, 1) := by decide +kernel
theorem tX11_replace_17 {d : Nat} {l0 l2 l3 : Option Value} {v0 : Value} {x : Int32} {m : jmM} {Q : Option Value → jmM → Prop} : AW d 181 17 [l0, some (.int x), l2, l3] [v0] m Q ↔ AW d 181 18 [l0, some (.int x), l2, l3] [.int x, v0] m Q := A_iload_n hB_X11_replace dX11_replace_17 rfl
theorem dX11_replace_18 : decode cX11_replace 18 = .ok (.iload_n 2, 1) := by decide +kernel
theorem tX11_replace_18 {d : Nat} {l0 l1 l3 : Option Value} {v0 v1 : Value} {x : Int32} {m : jmM} {Q : Option Value → jmM → Prop} : AW d 181 18 [l0, l1, some (.int x), l3] [v0, v1] m Q ↔ AW d 181 19 [l0, l1, some (.int x), l3] [.int x, v0, v1] m Q := A_iload_n hB_X11_replace dX11_replace_18 rfl
theorem dX11_replace_19 : decode cX11_replace 19 = .ok (.iastore, 1) := by decide +kernel
theorem tX11_replace_19 {d : Nat} {l0 l1 l2 l3 : Option Value} {x i : Int32} {a : Nat} {m : jmM} {Q : Option Value → jmM → Prop} : AW d 181 19 [l0, l1, l2, l3] [.int x, .int i, .ref a] m Q ↔ ((mS m a).1 = 20 ∧ jIx i (mS m a).2) ∧ AW d 181 20 [l0, l1, l2, l3] [] (cI m a (jup (mI m a) (jx i) x)) Q := A_iastore hB_X11_replace dX11_replace_19
theorem dX11_replace_20 : decode cX11_replace 20 = .ok (.iload_n 3, 1) := by decide +kernel
theorem tX11_replace_20 {d : Nat} {l0 l1 l2 : Option Value} {x : Int32} {m : jmM} {Q : Option Value → jmM → Prop} : AW d 181 20 [l0, l1, l2, some (.int x)] [] m Q ↔ AW d 181 21 [l0, l1, l2, some (.int x)] [.int x] m Q := A_iload_n hB_X11_replace dX11_replace_20 rfl
theorem dX11_replace_21 : decode cX11_replace 21 = .ok (.ireturn, 1) := by decide +kernel
theorem tX11_replace_21 {d : Nat} {l0 l1 l2 l3 : Option Value} {x : Int32} {m : jmM} {Q : Option Value → jmM → Prop} : AW d 181 21 [l0, l1, l2, l3] [.int x] m Q ↔ Q (some (.int x)) m := A_ireturn hB_X11_replace dX11_replace_21 hR_X11_replace
theorem hB_X11_isStuff : jB 182 = cX11_isStuff := rfl
theorem hO_X11_isStuff : jO 182 = 11 := rfl
theorem hR_X11_isStuff : jRt 182 = (some .boolean) := rfl
theorem nX11_isStuff (d : Nat) (x0 : Int32) (m : jmM) (Q : Option Value → jmM → Prop) : CC (d + 1) 182 [.int x0] m Q ↔ AW d 182 0 [some (.int x0)] [] m Q := CC_body (Nat.le_of_ble_eq_true rfl)
theorem dX11_isStuff_0 : decode cX11_isStuff 0 = .ok (.iload_n 0, 1) := by decide +kernel
theorem tX11_isStuff_0 {d : Nat} {x : Int32} {m : jmM} {Q : Option Value → jmM → Prop} : AW d 182 0 [some (.int x)] [] m Q ↔ AW d 182 1 [some (.int x)] [.int x] m Q := A_iload_n hB_X11_isStuff dX11_isStuff_0 rfl
theorem dX11_isStuff_1 : decode cX11_isStuff 1 = .ok (.ifCond .lt 13, 3) := by decide +kernel
theorem tX11_isStuff_1 {d : Nat} {l0 : Option Value} {x : Int32} {m : jmM} {Q : Option Value → jmM → Prop} : AW d 182 1 [l0] [.int x] m Q ↔ if x < 0 then AW d 182 14 [l0] [] m Q else AW d 182 4 [l0] [] m Q := A_if_lt hB_X11_isStuff dX11_isStuff_1 (by decide)
theorem dX11_isStuff_4 : decode cX11_isStuff 4 = .ok (.iload_n 0, 1) := by decide +kernel
theorem tX11_isStuff_4 {d : Nat} {x : Int32} {m : jmM} {Q : Option Value → jmM → Prop} : AW d 182 4 [some (.int x)] [] m Q ↔ AW d 182 5 [some (.int x)] [.int x] m Q := A_iload_n hB_X11_isStuff dX11_isStuff_4 rfl
theorem dX11_isStuff_5 : decode cX11_isStuff 5 = .ok (.bipush 6, 2) := by decide +kernel
theorem tX11_isStuff_5 {d : Nat} {l0 : Option Value} {v0 : Value} {m : jmM} {Q : Option Value → jmM → Prop} : AW d 182 5 [l0] [v0] m Q ↔ AW d 182 7 [l0] [.int 6, v0] m Q := A_bipush hB_X11_isStuff dX11_isStuff_5 rfl
theorem dX11_isStuff_7 : decode cX11_isStuff 7 = .ok (.if_icmp .ge 7, 3) := by decide +kernel
theorem tX11_isStuff_7 {d : Nat} {l0 : Option Value} {x y : Int32} {m : jmM} {Q : Option Value → jmM → Prop} : AW d 182 7 [l0] [.int y, .int x] m Q ↔ if y ≤ x then AW d 182 14 [l0] [] m Q else AW d 182 10 [l0] [] m Q := A_icmp_ge hB_X11_isStuff dX11_isStuff_7 (by decide)
theorem dX11_isStuff_10 : decode cX11_isStuff 10 = .ok (.iconst 1, 1) := by decide +kernel
theorem tX11_isStuff_10 {d : Nat} {l0 : Option Value} {m : jmM} {Q : Option Value → jmM → Prop} : AW d 182 10 [l0] [] m Q ↔ AW d 182 11 [l0] [.int 1] m Q := A_iconst hB_X11_isStuff dX11_isStuff_10 (by decide)
theorem dX11_isStuff_11 : decode cX11_isStuff 11 = .ok (.goto 4, 3) := by decide +kernel
theorem tX11_isStuff_11 {d : Nat} {l0 : Option Value} {v0 : Value} {m : jmM} {Q : Option Value → jmM → Prop} : AW d 182 11 [l0] [v0] m Q ↔ AW d 182 15 [l0] [v0] m Q := A_goto hB_X11_isStuff dX11_isStuff_11 (by decide)
theorem dX11_isStuff_14 : decode cX11_isStuff 14 = .ok (.iconst 0, 1) := by decide +kernel
theorem tX11_isStuff_14 {d : Nat} {l0 : Option Value} {m : jmM} {Q : Option Value → jmM → Prop} : AW d 182 14 [l0] [] m Q ↔ AW d 182 15 [l0] [.int 0] m Q := A_iconst hB_X11_isStuff dX11_isStuff_14 (by decide)
theorem dX11_isStuff_15 : decode cX11_isStuff 15 = .ok (.ireturn, 1) := by decide +kernel
theorem tX11_isStuff_15 {d : Nat} {l0 : Option Value} {x : Int32} {m : jmM} {Q : Option Value → jmM → Prop} : AW d 182 15 [l0] [.int x] m Q ↔ jBool x ∧ Q (some (.int x)) m := A_zreturn hB_X11_isStuff dX11_isStuff_15 hR_X11_isStuff
theorem hB_X11_isWithin : jB 183 = cX11_isWithin := rfl
theorem hO_X11_isWithin : jO 183 = 11 := rfl
theorem hR_X11_isWithin : jRt 183 = (some .boolean) := rfl
theorem nX11_isWithin (d : Nat) (x0 : Int32) (x1 : Int32) (x2 : Int32) (m : jmM) (Q : Option Value → jmM → Prop) : CC (d + 1) 183 [.int x0, .int x1, .int x2] m Q ↔ AW d 183 0 [some (.int x0), some (.int x1), some (.int x2)] [] m Q := CC_body (Nat.le_of_ble_eq_true rfl)
theorem dX11_isWithin_0 : decode cX11_isWithin 0 = .ok (.iload_n 0, 1) := by decide +kernel
theorem tX11_isWithin_0 {d : Nat} {l1 l2 : Option Value} {x : Int32} {m : jmM} {Q : Option Value → jmM → Prop} : AW d 183 0 [some (.int x), l1, l2] [] m Q ↔ AW d 183 1 [some (.int x), l1, l2] [.int x] m Q := A_iload_n hB_X11_isWithin dX11_isWithin_0 rfl
theorem dX11_isWithin_1 : decode cX11_isWithin 1 = .ok (.iload_n 1, 1) := by decide +kernel
theorem tX11_isWithin_1 {d : Nat} {l0 l2 : Option Value} {v0 : Value} {x : Int32} {m : jmM} {Q : Option Value → jmM → Prop} : AW d 183 1 [l0, some (.int x), l2] [v0] m Q ↔ AW d 183 2 [l0, some (.int x), l2] [.int x, v0] m Q := A_iload_n hB_X11_isWithin dX11_isWithin_1 rfl
theorem dX11_isWithin_2 : decode cX11_isWithin 2 = .ok (.if_icmp .lt 12, 3) := by decide +kernel
theorem tX11_isWithin_2 {d : Nat} {l0 l1 l2 : Option Value} {x y : Int32} {m : jmM} {Q : Option Value → jmM → Prop} : AW d 183 2 [l0, l1, l2] [.int y, .int x] m Q ↔ if x < y then AW d 183 14 [l0, l1, l2] [] m Q else AW d 183 5 [l0, l1, l2] [] m Q := A_icmp_lt hB_X11_isWithin dX11_isWithin_2 (by decide)
theorem dX11_isWithin_5 : decode cX11_isWithin 5 = .ok (.iload_n 0, 1) := by decide +kernel
theorem tX11_isWithin_5 {d : Nat} {l1 l2 : Option Value} {x : Int32} {m : jmM} {Q : Option Value → jmM → Prop} : AW d 183 5 [some (.int x), l1, l2] [] m Q ↔ AW d 183 6 [some (.int x), l1, l2] [.int x] m Q := A_iload_n hB_X11_isWithin dX11_isWithin_5 rfl
theorem dX11_isWithin_6 : decode cX11_isWithin 6 = .ok (.iload_n 2, 1) := by decide +kernel
theorem tX11_isWithin_6 {d : Nat} {l0 l1 : Option Value} {v0 : Value} {x : Int32} {m : jmM} {Q : Option Value → jmM → Prop} : AW d 183 6 [l0, l1, some (.int x)] [v0] m Q ↔ AW d 183 7 [l0, l1, some (.int x)] [.int x, v0] m Q := A_iload_n hB_X11_isWithin dX11_isWithin_6 rfl
theorem dX11_isWithin_7 : decode cX11_isWithin 7 = .ok (.if_icmp .gt 7, 3) := by decide +kernel
theorem tX11_isWithin_7 {d : Nat} {l0 l1 l2 : Option Value} {x y : Int32} {m : jmM} {Q : Option Value → jmM → Prop} : AW d 183 7 [l0, l1, l2] [.int y, .int x] m Q ↔ if y < x then AW d 183 14 [l0, l1, l2] [] m Q else AW d 183 10 [l0, l1, l2] [] m Q := A_icmp_gt hB_X11_isWithin dX11_isWithin_7 (by decide)
theorem dX11_isWithin_10 : decode cX11_isWithin 10 = .ok (.iconst 1, 1) := by decide +kernel
theorem tX11_isWithin_10 {d : Nat} {l0 l1 l2 : Option Value} {m : jmM} {Q : Option Value → jmM → Prop} : AW d 183 10 [l0, l1, l2] [] m Q ↔ AW d 183 11 [l0, l1, l2] [.int 1] m Q := A_iconst hB_X11_isWithin dX11_isWithin_10 (by decide)
theorem dX11_isWithin_11 : decode cX11_isWithin 11 = .ok (.goto 4, 3) := by decide +kernel
theorem tX11_isWithin_11 {d : Nat} {l0 l1 l2 : Option Value} {v0 : Value} {m : jmM} {Q : Option Value → jmM → Prop} : AW d 183 11 [l0, l1, l2] [v0] m Q ↔ AW d 183 15 [l0, l1, l2] [v0] m Q := A_goto hB_X11_isWithin dX11_isWithin_11 (by decide)
theorem dX11_isWithin_14 : decode cX11_isWithin 14 = .ok (.iconst 0, 1) := by decide +kernel
theorem tX11_isWithin_14 {d : Nat} {l0 l1 l2 : Option Value} {m : jmM} {Q : Option Value → jmM → Prop} : AW d 183 14 [l0, l1, l2] [] m Q ↔ AW d 183 15 [l0, l1, l2] [.int 0] m Q := A_iconst hB_X11_isWithin dX11_isWithin_14 (by decide)
theorem dX11_isWithin_15 : decode cX11_isWithin 15 = .ok (.ireturn, 1) := by decide +kernel
theorem tX11_isWithin_15 {d : Nat} {l0 l1 l2 : Option Value} {x : Int32} {m : jmM} {Q : Option Value → jmM → Prop} : AW d 183 15 [l0, l1, l2] [.int x] m Q ↔ jBool x ∧ Q (some (.int x)) m := A_zreturn hB_X11_isWithin dX11_isWithin_15 hR_X11_isWithin
theorem hB_X11_isSpan : jB 184 = cX11_isSpan := rfl
theorem hO_X11_isSpan : jO 184 = 11 := rfl
theorem hR_X11_isSpan : jRt 184 = (some .boolean) := rfl
theorem nX11_isSpan (d : Nat) (x0 : Int32) (x1 : Int32) (m : jmM) (Q : Option Value → jmM → Prop) : CC (d + 1) 184 [.int x0, .int x1] m Q ↔ AW d 184 0 [some (.int x0), some (.int x1)] [] m Q := CC_body (Nat.le_of_ble_eq_true rfl)
theorem dX11_isSpan_0 : decode cX11_isSpan 0 = .ok (.iload_n 0, 1) := by decide +kernel
theorem tX11_isSpan_0 {d : Nat} {l1 : Option Value} {x : Int32} {m : jmM} {Q : Option Value → jmM → Prop} : AW d 184 0 [some (.int x), l1] [] m Q ↔ AW d 184 1 [some (.int x), l1] [.int x] m Q := A_iload_n hB_X11_isSpan dX11_isSpan_0 rfl
theorem dX11_isSpan_1 : decode cX11_isSpan 1 = .ok (.ifCond .lt 19, 3) := by decide +kernel
theorem tX11_isSpan_1 {d : Nat} {l0 l1 : Option Value} {x : Int32} {m : jmM} {Q : Option Value → jmM → Prop} : AW d 184 1 [l0, l1] [.int x] m Q ↔ if x < 0 then AW d 184 20 [l0, l1] [] m Q else AW d 184 4 [l0, l1] [] m Q := A_if_lt hB_X11_isSpan dX11_isSpan_1 (by decide)
theorem dX11_isSpan_4 : decode cX11_isSpan 4 = .ok (.iload_n 1, 1) := by decide +kernel
theorem tX11_isSpan_4 {d : Nat} {l0 : Option Value} {x : Int32} {m : jmM} {Q : Option Value → jmM → Prop} : AW d 184 4 [l0, some (.int x)] [] m Q ↔ AW d 184 5 [l0, some (.int x)] [.int x] m Q := A_iload_n hB_X11_isSpan dX11_isSpan_4 rfl
theorem dX11_isSpan_5 : decode cX11_isSpan 5 = .ok (.ldc_w 286, 3) := by decide +kernel
theorem tX11_isSpan_5 {d : Nat} {l0 l1 : Option Value} {v0 : Value} {m : jmM} {Q : Option Value → jmM → Prop} : AW d 184 5 [l0, l1] [v0] m Q ↔ AW d 184 8 [l0, l1] [.int 1000000000, v0] m Q := A_ldc_w hB_X11_isSpan dX11_isSpan_5 hO_X11_isSpan fL_11_286
theorem dX11_isSpan_8 : decode cX11_isSpan 8 = .ok (.if_icmp .gt 12, 3) := by decide +kernel
theorem tX11_isSpan_8 {d : Nat} {l0 l1 : Option Value} {x y : Int32} {m : jmM} {Q : Option Value → jmM → Prop} : AW d 184 8 [l0, l1] [.int y, .int x] m Q ↔ if y < x then AW d 184 20 [l0, l1] [] m Q else AW d 184 11 [l0, l1] [] m Q := A_icmp_gt hB_X11_isSpan dX11_isSpan_8 (by decide)
theorem dX11_isSpan_11 : decode cX11_isSpan 11 = .ok (.iload_n 0, 1) := by decide +kernel
theorem tX11_isSpan_11 {d : Nat} {l1 : Option Value} {x : Int32} {m : jmM} {Q : Option Value → jmM → Prop} : AW d 184 11 [some (.int x), l1] [] m Q ↔ AW d 184 12 [some (.int x), l1] [.int x] m Q := A_iload_n hB_X11_isSpan dX11_isSpan_11 rfl
theorem dX11_isSpan_12 : decode cX11_isSpan 12 = .ok (.iload_n 1, 1) := by decide +kernel
theorem tX11_isSpan_12 {d : Nat} {l0 : Option Value} {v0 : Value} {x : Int32} {m : jmM} {Q : Option Value → jmM → Prop} : AW d 184 12 [l0, some (.int x)] [v0] m Q ↔ AW d 184 13 [l0, some (.int x)] [.int x, v0] m Q := A_iload_n hB_X11_isSpan dX11_isSpan_12 rfl
theorem dX11_isSpan_13 : decode cX11_isSpan 13 = .ok (.if_icmp .gt 7, 3) := by decide +kernel
theorem tX11_isSpan_13 {d : Nat} {l0 l1 : Option Value} {x y : Int32} {m : jmM} {Q : Option Value → jmM → Prop} : AW d 184 13 [l0, l1] [.int y, .int x] m Q ↔ if y < x then AW d 184 20 [l0, l1] [] m Q else AW d 184 16 [l0, l1] [] m Q := A_icmp_gt hB_X11_isSpan dX11_isSpan_13 (by decide)
theorem dX11_isSpan_16 : decode cX11_isSpan 16 = .ok (.iconst 1, 1) := by decide +kernel
theorem tX11_isSpan_16 {d : Nat} {l0 l1 : Option Value} {m : jmM} {Q : Option Value → jmM → Prop} : AW d 184 16 [l0, l1] [] m Q ↔ AW d 184 17 [l0, l1] [.int 1] m Q := A_iconst hB_X11_isSpan dX11_isSpan_16 (by decide)
theorem dX11_isSpan_17 : decode cX11_isSpan 17 = .ok (.goto 4, 3) := by decide +kernel
theorem tX11_isSpan_17 {d : Nat} {l0 l1 : Option Value} {v0 : Value} {m : jmM} {Q : Option Value → jmM → Prop} : AW d 184 17 [l0, l1] [v0] m Q ↔ AW d 184 21 [l0, l1] [v0] m Q := A_goto hB_X11_isSpan dX11_isSpan_17 (by decide)
theorem dX11_isSpan_20 : decode cX11_isSpan 20 = .ok (.iconst 0, 1) := by decide +kernel
theorem tX11_isSpan_20 {d : Nat} {l0 l1 : Option Value} {m : jmM} {Q : Option Value → jmM → Prop} : AW d 184 20 [l0, l1] [] m Q ↔ AW d 184 21 [l0, l1] [.int 0] m Q := A_iconst hB_X11_isSpan dX11_isSpan_20 (by decide)
theorem dX11_isSpan_21 : decode cX11_isSpan 21 = .ok (.ireturn, 1) := by decide +kernel
theorem tX11_isSpan_21 {d : Nat} {l0 l1 : Option Value} {x : Int32} {m : jmM} {Q : Option Value → jmM → Prop} : AW d 184 21 [l0, l1] [.int x] m Q ↔ jBool x ∧ Q (some (.int x)) m := A_zreturn hB_X11_isSpan dX11_isSpan_21 hR_X11_isSpan
theorem hB_X11_hold : jB 185 = cX11_hold := rfl
theorem hO_X11_hold : jO 185 = 11 := rfl
theorem hR_X11_hold : jRt 185 = (some .long) := rfl
theorem nX11_hold (d : Nat) (x0 : Int64) (x1 : Int64) (x2 : Int64) (m : jmM) (Q : Option Value → jmM → Prop) : CC (d + 1) 185 [.long x0, .long x1, .long x2] m Q ↔ AW d 185 0 [some (.long x0), none, some (.long x1), none, some (.long x2), none] [] m Q := CC_body (Nat.le_of_ble_eq_true rfl)
theorem dX11_hold_0 : decode cX11_hold 0 = .ok (.lload_n 2, 1) := by decide +kernel
theorem tX11_hold_0 {d : Nat} {l0 l1 l3 l4 l5 : Option Value} {x : Int64} {m : jmM} {Q : Option Value → jmM → Prop} : AW d 185 0 [l0, l1, some (.long x), l3, l4, l5] [] m Q ↔ AW d 185 1 [l0, l1, some (.long x), l3, l4, l5] [.long x] m Q := A_lload_n hB_X11_hold dX11_hold_0 rfl
theorem dX11_hold_1 : decode cX11_hold 1 = .ok (.lload 4, 2) := by decide +kernel
theorem tX11_hold_1 {d : Nat} {l0 l1 l2 l3 l5 : Option Value} {v0 : Value} {x : Int64} {m : jmM} {Q : Option Value → jmM → Prop} : AW d 185 1 [l0, l1, l2, l3, some (.long x), l5] [v0] m Q ↔ AW d 185 3 [l0, l1, l2, l3, some (.long x), l5] [.long x, v0] m Q := A_lload hB_X11_hold dX11_hold_1 rfl
theorem dX11_hold_3 : decode cX11_hold 3 = .ok (.lload_n 0, 1) := by decide +kernel
theorem tX11_hold_3 {d : Nat} {l1 l2 l3 l4 l5 : Option Value} {v0 v1 : Value} {x : Int64} {m : jmM} {Q : Option Value → jmM → Prop} : AW d 185 3 [some (.long x), l1, l2, l3, l4, l5] [v0, v1] m Q ↔ AW d 185 4 [some (.long x), l1, l2, l3, l4, l5] [.long x, v0, v1] m Q := A_lload_n hB_X11_hold dX11_hold_3 rfl
theorem dX11_hold_4 : decode cX11_hold 4 = .ok (.invokestatic 359, 3) := by decide +kernel
theorem tX11_hold_4 {d : Nat} {l0 l1 l2 l3 l4 l5 : Option Value} {v2 : Value} {x y : Int64} {m : jmM} {Q : Option Value → jmM → Prop} : AW d 185 4 [l0, l1, l2, l3, l4, l5] [.long y, .long x, v2] m Q ↔ AW d 185 7 [l0, l1, l2, l3, l4, l5] [.long (if y < x then y else x), v2] m Q := A_minl hB_X11_hold dX11_hold_4 hO_X11_hold fS_11_359 (Nat.le_of_ble_eq_true rfl)
theorem dX11_hold_7 : decode cX11_hold 7 = .ok (.invokestatic 362, 3) := by decide +kernel
theorem tX11_hold_7 {d : Nat} {l0 l1 l2 l3 l4 l5 : Option Value} {x y : Int64} {m : jmM} {Q : Option Value → jmM → Prop} : AW d 185 7 [l0, l1, l2, l3, l4, l5] [.long y, .long x] m Q ↔ AW d 185 10 [l0, l1, l2, l3, l4, l5] [.long (if y < x then x else y)] m Q := A_maxl hB_X11_hold dX11_hold_7 hO_X11_hold fS_11_362 (Nat.le_of_ble_eq_true rfl)
theorem dX11_hold_10 : decode cX11_hold 10 = .ok (.lreturn, 1) := by decide +kernel
theorem tX11_hold_10 {d : Nat} {l0 l1 l2 l3 l4 l5 : Option Value} {x : Int64} {m : jmM} {Q : Option Value → jmM → Prop} : AW d 185 10 [l0, l1, l2, l3, l4, l5] [.long x] m Q ↔ Q (some (.long x)) m := A_lreturn hB_X11_hold dX11_hold_10 hR_X11_hold
theorem hB_X11_partsInMillion : jB 186 = cX11_partsInMillion := rfl
theorem hO_X11_partsInMillion : jO 186 = 11 := rfl
theorem hR_X11_partsInMillion : jRt 186 = (some .long) := rfl
theorem nX11_partsInMillion (d : Nat) (x0 : Int64) (x1 : Int64) (m : jmM) (Q : Option Value → jmM → Prop) : CC (d + 1) 186 [.long x0, .long x1] m Q ↔ AW d 186 0 [some (.long x0), none, some (.long x1), none] [] m Q := CC_body (Nat.le_of_ble_eq_true rfl)
theorem dX11_partsInMillion_0 : decode cX11_partsInMillion 0 = .ok (.lload_n 2, 1) := by decide +kernel
theorem tX11_partsInMillion_0 {d : Nat} {l0 l1 l3 : Option Value} {x : Int64} {m : jmM} {Q : Option Value → jmM → Prop} : AW d 186 0 [l0, l1, some (.long x), l3] [] m Q ↔ AW d 186 1 [l0, l1, some (.long x), l3] [.long x] m Q := A_lload_n hB_X11_partsInMillion dX11_partsInMillion_0 rfl
theorem dX11_partsInMillion_1 : decode cX11_partsInMillion 1 = .ok (.lconst 0, 1) := by decide +kernel
theorem tX11_partsInMillion_1 {d : Nat} {l0 l1 l2 l3 : Option Value} {v0 : Value} {m : jmM} {Q : Option Value → jmM → Prop} : AW d 186 1 [l0, l1, l2, l3] [v0] m Q ↔ AW d 186 2 [l0, l1, l2, l3] [.long 0, v0] m Q := A_lconst hB_X11_partsInMillion dX11_partsInMillion_1 (by decide)
theorem dX11_partsInMillion_2 : decode cX11_partsInMillion 2 = .ok (.lcmp, 1) := by decide +kernel
theorem tX11_partsInMillion_2 {d : Nat} {l0 l1 l2 l3 : Option Value} {x y : Int64} {m : jmM} {Q : Option Value → jmM → Prop} : AW d 186 2 [l0, l1, l2, l3] [.long y, .long x] m Q ↔ AW d 186 3 [l0, l1, l2, l3] [.int (lg_cmp x y)] m Q := A_lcmp hB_X11_partsInMillion dX11_partsInMillion_2
theorem dX11_partsInMillion_3 : decode cX11_partsInMillion 3 = .ok (.ifCond .ne 7, 3) := by decide +kernel
theorem tX11_partsInMillion_3 {d : Nat} {l0 l1 l2 l3 : Option Value} {x : Int32} {m : jmM} {Q : Option Value → jmM → Prop} : AW d 186 3 [l0, l1, l2, l3] [.int x] m Q ↔ if x = 0 then AW d 186 6 [l0, l1, l2, l3] [] m Q else AW d 186 10 [l0, l1, l2, l3] [] m Q := A_if_ne hB_X11_partsInMillion dX11_partsInMillion_3 (by decide)
theorem dX11_partsInMillion_6 : decode cX11_partsInMillion 6 = .ok (.lconst 0, 1) := by decide +kernel
theorem tX11_partsInMillion_6 {d : Nat} {l0 l1 l2 l3 : Option Value} {m : jmM} {Q : Option Value → jmM → Prop} : AW d 186 6 [l0, l1, l2, l3] [] m Q ↔ AW d 186 7 [l0, l1, l2, l3] [.long 0] m Q := A_lconst hB_X11_partsInMillion dX11_partsInMillion_6 (by decide)
theorem dX11_partsInMillion_7 : decode cX11_partsInMillion 7 = .ok (.goto 10, 3) := by decide +kernel
theorem tX11_partsInMillion_7 {d : Nat} {l0 l1 l2 l3 : Option Value} {v0 : Value} {m : jmM} {Q : Option Value → jmM → Prop} : AW d 186 7 [l0, l1, l2, l3] [v0] m Q ↔ AW d 186 17 [l0, l1, l2, l3] [v0] m Q := A_goto hB_X11_partsInMillion dX11_partsInMillion_7 (by decide)
theorem dX11_partsInMillion_10 : decode cX11_partsInMillion 10 = .ok (.lload_n 0, 1) := by decide +kernel
theorem tX11_partsInMillion_10 {d : Nat} {l1 l2 l3 : Option Value} {x : Int64} {m : jmM} {Q : Option Value → jmM → Prop} : AW d 186 10 [some (.long x), l1, l2, l3] [] m Q ↔ AW d 186 11 [some (.long x), l1, l2, l3] [.long x] m Q := A_lload_n hB_X11_partsInMillion dX11_partsInMillion_10 rfl
theorem dX11_partsInMillion_11 : decode cX11_partsInMillion 11 = .ok (.ldc2_w 364, 3) := by decide +kernel
theorem tX11_partsInMillion_11 {d : Nat} {l0 l1 l2 l3 : Option Value} {v0 : Value} {m : jmM} {Q : Option Value → jmM → Prop} : AW d 186 11 [l0, l1, l2, l3] [v0] m Q ↔ AW d 186 14 [l0, l1, l2, l3] [.long 1000000, v0] m Q := A_ldc2_w hB_X11_partsInMillion dX11_partsInMillion_11 hO_X11_partsInMillion fL2_11_364
theorem dX11_partsInMillion_14 : decode cX11_partsInMillion 14 = .ok (.lmul, 1) := by decide +kernel
theorem tX11_partsInMillion_14 {d : Nat} {l0 l1 l2 l3 : Option Value} {x y : Int64} {m : jmM} {Q : Option Value → jmM → Prop} : AW d 186 14 [l0, l1, l2, l3] [.long y, .long x] m Q ↔ AW d 186 15 [l0, l1, l2, l3] [.long (x * y)] m Q := A_lmul hB_X11_partsInMillion dX11_partsInMillion_14
theorem dX11_partsInMillion_15 : decode cX11_partsInMillion 15 = .ok (.lload_n 2, 1) := by decide +kernel
theorem tX11_partsInMillion_15 {d : Nat} {l0 l1 l3 : Option Value} {v0 : Value} {x : Int64} {m : jmM} {Q : Option Value → jmM → Prop} : AW d 186 15 [l0, l1, some (.long x), l3] [v0] m Q ↔ AW d 186 16 [l0, l1, some (.long x), l3] [.long x, v0] m Q := A_lload_n hB_X11_partsInMillion dX11_partsInMillion_15 rfl
theorem dX11_partsInMillion_16 : decode cX11_partsInMillion 16 = .ok (.ldiv, 1) := by decide +kernel
theorem tX11_partsInMillion_16 {d : Nat} {l0 l1 l2 l3 : Option Value} {x y : Int64} {m : jmM} {Q : Option Value → jmM → Prop} : AW d 186 16 [l0, l1, l2, l3] [.long y, .long x] m Q ↔ ¬ y = 0 ∧ AW d 186 17 [l0, l1, l2, l3] [.long (x / y)] m Q := A_ldiv hB_X11_partsInMillion dX11_partsInMillion_16
theorem dX11_partsInMillion_17 : decode cX11_partsInMillion 17 = .ok (.lreturn, 1) := by decide +kernel
theorem tX11_partsInMillion_17 {d : Nat} {l0 l1 l2 l3 : Option Value} {x : Int64} {m : jmM} {Q : Option Value → jmM → Prop} : AW d 186 17 [l0, l1, l2, l3] [.long x] m Q ↔ Q (some (.long x)) m := A_lreturn hB_X11_partsInMillion dX11_partsInMillion_17 hR_X11_partsInMillion
theorem hB_X11_goesAlong : jB 187 = cX11_goesAlong := rfl
theorem hO_X11_goesAlong : jO 187 = 11 := rfl
theorem hR_X11_goesAlong : jRt 187 = (some .long) := rfl
theorem nX11_goesAlong (d : Nat) (x0 : Int64) (x1 : Int64) (x2 : Int64) (x3 : Int64) (m : jmM) (Q : Option Value → jmM → Prop) : CC (d + 1) 187 [.long x0, .long x1, .long x2, .long x3] m Q ↔ AW d 187 0 [some (.long x0), none, some (.long x1), none, some (.long x2), none, some (.long x3), none] [] m Q := CC_body (Nat.le_of_ble_eq_true rfl)
theorem dX11_goesAlong_0 : decode cX11_goesAlong 0 = .ok (.lload 4, 2) := by decide +kernel
theorem tX11_goesAlong_0 {d : Nat} {l0 l1 l2 l3 l5 l6 l7 : Option Value} {x : Int64} {m : jmM} {Q : Option Value → jmM → Prop} : AW d 187 0 [l0, l1, l2, l3, some (.long x), l5, l6, l7] [] m Q ↔ AW d 187 2 [l0, l1, l2, l3, some (.long x), l5, l6, l7] [.long x] m Q := A_lload hB_X11_goesAlong dX11_goesAlong_0 rfl
theorem dX11_goesAlong_2 : decode cX11_goesAlong 2 = .ok (.lconst 0, 1) := by decide +kernel
theorem tX11_goesAlong_2 {d : Nat} {l0 l1 l2 l3 l4 l5 l6 l7 : Option Value} {v0 : Value} {m : jmM} {Q : Option Value → jmM → Prop} : AW d 187 2 [l0, l1, l2, l3, l4, l5, l6, l7] [v0] m Q ↔ AW d 187 3 [l0, l1, l2, l3, l4, l5, l6, l7] [.long 0, v0] m Q := A_lconst hB_X11_goesAlong dX11_goesAlong_2 (by decide)
theorem dX11_goesAlong_3 : decode cX11_goesAlong 3 = .ok (.lcmp, 1) := by decide +kernel
theorem tX11_goesAlong_3 {d : Nat} {l0 l1 l2 l3 l4 l5 l6 l7 : Option Value} {x y : Int64} {m : jmM} {Q : Option Value → jmM → Prop} : AW d 187 3 [l0, l1, l2, l3, l4, l5, l6, l7] [.long y, .long x] m Q ↔ AW d 187 4 [l0, l1, l2, l3, l4, l5, l6, l7] [.int (lg_cmp x y)] m Q := A_lcmp hB_X11_goesAlong dX11_goesAlong_3
theorem dX11_goesAlong_4 : decode cX11_goesAlong 4 = .ok (.ifCond .ne 7, 3) := by decide +kernel
theorem tX11_goesAlong_4 {d : Nat} {l0 l1 l2 l3 l4 l5 l6 l7 : Option Value} {x : Int32} {m : jmM} {Q : Option Value → jmM → Prop} : AW d 187 4 [l0, l1, l2, l3, l4, l5, l6, l7] [.int x] m Q ↔ if x = 0 then AW d 187 7 [l0, l1, l2, l3, l4, l5, l6, l7] [] m Q else AW d 187 11 [l0, l1, l2, l3, l4, l5, l6, l7] [] m Q := A_if_ne hB_X11_goesAlong dX11_goesAlong_4 (by decide)
theorem dX11_goesAlong_7 : decode cX11_goesAlong 7 = .ok (.lconst 0, 1) := by decide +kernel
theorem tX11_goesAlong_7 {d : Nat} {l0 l1 l2 l3 l4 l5 l6 l7 : Option Value} {m : jmM} {Q : Option Value → jmM → Prop} : AW d 187 7 [l0, l1, l2, l3, l4, l5, l6, l7] [] m Q ↔ AW d 187 8 [l0, l1, l2, l3, l4, l5, l6, l7] [.long 0] m Q := A_lconst hB_X11_goesAlong dX11_goesAlong_7 (by decide)
theorem dX11_goesAlong_8 : decode cX11_goesAlong 8 = .ok (.goto 20, 3) := by decide +kernel
theorem tX11_goesAlong_8 {d : Nat} {l0 l1 l2 l3 l4 l5 l6 l7 : Option Value} {v0 : Value} {m : jmM} {Q : Option Value → jmM → Prop} : AW d 187 8 [l0, l1, l2, l3, l4, l5, l6, l7] [v0] m Q ↔ AW d 187 28 [l0, l1, l2, l3, l4, l5, l6, l7] [v0] m Q := A_goto hB_X11_goesAlong dX11_goesAlong_8 (by decide)
theorem dX11_goesAlong_11 : decode cX11_goesAlong 11 = .ok (.lload_n 0, 1) := by decide +kernel
theorem tX11_goesAlong_11 {d : Nat} {l1 l2 l3 l4 l5 l6 l7 : Option Value} {x : Int64} {m : jmM} {Q : Option Value → jmM → Prop} : AW d 187 11 [some (.long x), l1, l2, l3, l4, l5, l6, l7] [] m Q ↔ AW d 187 12 [some (.long x), l1, l2, l3, l4, l5, l6, l7] [.long x] m Q := A_lload_n hB_X11_goesAlong dX11_goesAlong_11 rfl
theorem dX11_goesAlong_12 : decode cX11_goesAlong 12 = .ok (.lload_n 0, 1) := by decide +kernel
theorem tX11_goesAlong_12 {d : Nat} {l1 l2 l3 l4 l5 l6 l7 : Option Value} {v0 : Value} {x : Int64} {m : jmM} {Q : Option Value → jmM → Prop} : AW d 187 12 [some (.long x), l1, l2, l3, l4, l5, l6, l7] [v0] m Q ↔ AW d 187 13 [some (.long x), l1, l2, l3, l4, l5, l6, l7] [.long x, v0] m Q := A_lload_n hB_X11_goesAlong dX11_goesAlong_12 rfl
theorem dX11_goesAlong_13 : decode cX11_goesAlong 13 = .ok (.lload_n 2, 1) := by decide +kernel
theorem tX11_goesAlong_13 {d : Nat} {l0 l1 l3 l4 l5 l6 l7 : Option Value} {v0 v1 : Value} {x : Int64} {m : jmM} {Q : Option Value → jmM → Prop} : AW d 187 13 [l0, l1, some (.long x), l3, l4, l5, l6, l7] [v0, v1] m Q ↔ AW d 187 14 [l0, l1, some (.long x), l3, l4, l5, l6, l7] [.long x, v0, v1] m Q := A_lload_n hB_X11_goesAlong dX11_goesAlong_13 rfl
theorem dX11_goesAlong_14 : decode cX11_goesAlong 14 = .ok (.lmul, 1) := by decide +kernel
theorem tX11_goesAlong_14 {d : Nat} {l0 l1 l2 l3 l4 l5 l6 l7 : Option Value} {v2 : Value} {x y : Int64} {m : jmM} {Q : Option Value → jmM → Prop} : AW d 187 14 [l0, l1, l2, l3, l4, l5, l6, l7] [.long y, .long x, v2] m Q ↔ AW d 187 15 [l0, l1, l2, l3, l4, l5, l6, l7] [.long (x * y), v2] m Q := A_lmul hB_X11_goesAlong dX11_goesAlong_14
theorem dX11_goesAlong_15 : decode cX11_goesAlong 15 = .ok (.lload 4, 2) := by decide +kernel
theorem tX11_goesAlong_15 {d : Nat} {l0 l1 l2 l3 l5 l6 l7 : Option Value} {v0 v1 : Value} {x : Int64} {m : jmM} {Q : Option Value → jmM → Prop} : AW d 187 15 [l0, l1, l2, l3, some (.long x), l5, l6, l7] [v0, v1] m Q ↔ AW d 187 17 [l0, l1, l2, l3, some (.long x), l5, l6, l7] [.long x, v0, v1] m Q := A_lload hB_X11_goesAlong dX11_goesAlong_15 rfl
theorem dX11_goesAlong_17 : decode cX11_goesAlong 17 = .ok (.ldiv, 1) := by decide +kernel
theorem tX11_goesAlong_17 {d : Nat} {l0 l1 l2 l3 l4 l5 l6 l7 : Option Value} {v2 : Value} {x y : Int64} {m : jmM} {Q : Option Value → jmM → Prop} : AW d 187 17 [l0, l1, l2, l3, l4, l5, l6, l7] [.long y, .long x, v2] m Q ↔ ¬ y = 0 ∧ AW d 187 18 [l0, l1, l2, l3, l4, l5, l6, l7] [.long (x / y), v2] m Q := A_ldiv hB_X11_goesAlong dX11_goesAlong_17
theorem dX11_goesAlong_18 : decode cX11_goesAlong 18 = .ok (.lload 6, 2) := by decide +kernel
theorem tX11_goesAlong_18 {d : Nat} {l0 l1 l2 l3 l4 l5 l7 : Option Value} {v0 v1 : Value} {x : Int64} {m : jmM} {Q : Option Value → jmM → Prop} : AW d 187 18 [l0, l1, l2, l3, l4, l5, some (.long x), l7] [v0, v1] m Q ↔ AW d 187 20 [l0, l1, l2, l3, l4, l5, some (.long x), l7] [.long x, v0, v1] m Q := A_lload hB_X11_goesAlong dX11_goesAlong_18 rfl
theorem dX11_goesAlong_20 : decode cX11_goesAlong 20 = .ok (.lmul, 1) := by decide +kernel
theorem tX11_goesAlong_20 {d : Nat} {l0 l1 l2 l3 l4 l5 l6 l7 : Option Value} {v2 : Value} {x y : Int64} {m : jmM} {Q : Option Value → jmM → Prop} : AW d 187 20 [l0, l1, l2, l3, l4, l5, l6, l7] [.long y, .long x, v2] m Q ↔ AW d 187 21 [l0, l1, l2, l3, l4, l5, l6, l7] [.long (x * y), v2] m Q := A_lmul hB_X11_goesAlong dX11_goesAlong_20
theorem dX11_goesAlong_21 : decode cX11_goesAlong 21 = .ok (.ldc2_w 366, 3) := by decide +kernel
theorem tX11_goesAlong_21 {d : Nat} {l0 l1 l2 l3 l4 l5 l6 l7 : Option Value} {v0 v1 : Value} {m : jmM} {Q : Option Value → jmM → Prop} : AW d 187 21 [l0, l1, l2, l3, l4, l5, l6, l7] [v0, v1] m Q ↔ AW d 187 24 [l0, l1, l2, l3, l4, l5, l6, l7] [.long 1000, v0, v1] m Q := A_ldc2_w hB_X11_goesAlong dX11_goesAlong_21 hO_X11_goesAlong fL2_11_366
theorem dX11_goesAlong_24 : decode cX11_goesAlong 24 = .ok (.ldiv, 1) := by decide +kernel
theorem tX11_goesAlong_24 {d : Nat} {l0 l1 l2 l3 l4 l5 l6 l7 : Option Value} {v2 : Value} {x y : Int64} {m : jmM} {Q : Option Value → jmM → Prop} : AW d 187 24 [l0, l1, l2, l3, l4, l5, l6, l7] [.long y, .long x, v2] m Q ↔ ¬ y = 0 ∧ AW d 187 25 [l0, l1, l2, l3, l4, l5, l6, l7] [.long (x / y), v2] m Q := A_ldiv hB_X11_goesAlong dX11_goesAlong_24
theorem dX11_goesAlong_25 : decode cX11_goesAlong 25 = .ok (.invokestatic 359, 3) := by decide +kernel
theorem tX11_goesAlong_25 {d : Nat} {l0 l1 l2 l3 l4 l5 l6 l7 : Option Value} {x y : Int64} {m : jmM} {Q : Option Value → jmM → Prop} : AW d 187 25 [l0, l1, l2, l3, l4, l5, l6, l7] [.long y, .long x] m Q ↔ AW d 187 28 [l0, l1, l2, l3, l4, l5, l6, l7] [.long (if y < x then y else x)] m Q := A_minl hB_X11_goesAlong dX11_goesAlong_25 hO_X11_goesAlong fS_11_359 (Nat.le_of_ble_eq_true rfl)
theorem dX11_goesAlong_28 : decode cX11_goesAlong 28 = .ok (.lreturn, 1) := by decide +kernel
theorem tX11_goesAlong_28 {d : Nat} {l0 l1 l2 l3 l4 l5 l6 l7 : Option Value} {x : Int64} {m : jmM} {Q : Option Value → jmM → Prop} : AW d 187 28 [l0, l1, l2, l3, l4, l5, l6, l7] [.long x] m Q ↔ Q (some (.long x)) m := A_lreturn hB_X11_goesAlong dX11_goesAlong_28 hR_X11_goesAlong
