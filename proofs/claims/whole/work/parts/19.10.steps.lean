/-! steps of PulledCrystal$Want, by program -/
theorem hB_X10_init : jB 135 = cX10_init := rfl
theorem hO_X10_init : jO 135 = 10 := rfl
theorem hR_X10_init : jRt 135 = none := rfl
theorem nX10_init (d : Nat) (x0 : Nat) (m : jmM) (Q : Option Value → jmM → Prop) : CC (d + 1) 135 [.ref x0] m Q ↔ AW d 135 0 [some (.ref x0)] [] m Q := CC_body (Nat.le_of_ble_eq_true rfl)
theorem dX10_init_0 : decode cX10_init 0 = .ok (.aload_n 0, 1) := by decide +kernel
theorem tX10_init_0 {d : Nat} {x : Nat} {m : jmM} {Q : Option Value → jmM → Prop} : AW d 135 0 [some (.ref x)] [] m Q ↔ AW d 135 1 [some (.ref x)] [.ref x] m Q := A_aload_n hB_X10_init dX10_init_0 rfl
theorem dX10_init_1 : decode cX10_init 1 = .ok (.invokespecial 1, 3) := by decide +kernel
theorem tX10_init_1 {d : Nat} {l0 : Option Value} {a : Nat} {m : jmM} {Q : Option Value → jmM → Prop} : AW d 135 1 [l0] [.ref a] m Q ↔ AW d 135 4 [l0] [] m Q := A_obj hB_X10_init dX10_init_1 hO_X10_init fS_10_1 (Nat.le_of_ble_eq_true rfl)
theorem dX10_init_4 : decode cX10_init 4 = .ok (.aload_n 0, 1) := by decide +kernel
theorem tX10_init_4 {d : Nat} {x : Nat} {m : jmM} {Q : Option Value → jmM → Prop} : AW d 135 4 [some (.ref x)] [] m Q ↔ AW d 135 5 [some (.ref x)] [.ref x] m Q := A_aload_n hB_X10_init dX10_init_4 rfl
theorem dX10_init_5 : decode cX10_init 5 = .ok (.iconst 0, 1) := by decide +kernel
theorem tX10_init_5 {d : Nat} {l0 : Option Value} {v0 : Value} {m : jmM} {Q : Option Value → jmM → Prop} : AW d 135 5 [l0] [v0] m Q ↔ AW d 135 6 [l0] [.int 0, v0] m Q := A_iconst hB_X10_init dX10_init_5 (by decide)
theorem dX10_init_6 : decode cX10_init 6 = .ok (.putfield 7, 3) := by decide +kernel
theorem tX10_init_6 {d : Nat} {l0 : Option Value} {x : Int32} {a : Nat} {m : jmM} {Q : Option Value → jmM → Prop} : AW d 135 6 [l0] [.int x, .ref a] m Q ↔ (mS m a).1 = 10 ∧ AW d 135 9 [l0] [] (cI m a (jup (mI m a) 0 x)) Q := A_putI hB_X10_init dX10_init_6 hO_X10_init fF_10_7 rfl (fun h => Bool.noConfusion h)
theorem dX10_init_9 : decode cX10_init 9 = .ok (.aload_n 0, 1) := by decide +kernel
theorem tX10_init_9 {d : Nat} {x : Nat} {m : jmM} {Q : Option Value → jmM → Prop} : AW d 135 9 [some (.ref x)] [] m Q ↔ AW d 135 10 [some (.ref x)] [.ref x] m Q := A_aload_n hB_X10_init dX10_init_9 rfl
theorem dX10_init_10 : decode cX10_init 10 = .ok (.iconst 0, 1) := by decide +kernel
theorem tX10_init_10 {d : Nat} {l0 : Option Value} {v0 : Value} {m : jmM} {Q : Option Value → jmM → Prop} : AW d 135 10 [l0] [v0] m Q ↔ AW d 135 11 [l0] [.int 0, v0] m Q := A_iconst hB_X10_init dX10_init_10 (by decide)
theorem dX10_init_11 : decode cX10_init 11 = .ok (.putfield 13, 3) := by decide +kernel
theorem tX10_init_11 {d : Nat} {l0 : Option Value} {x : Int32} {a : Nat} {m : jmM} {Q : Option Value → jmM → Prop} : AW d 135 11 [l0] [.int x, .ref a] m Q ↔ (mS m a).1 = 10 ∧ AW d 135 14 [l0] [] (cI m a (jup (mI m a) 1 x)) Q := A_putI hB_X10_init dX10_init_11 hO_X10_init fF_10_13 rfl (fun h => Bool.noConfusion h)
theorem dX10_init_14 : decode cX10_init 14 = .ok (.aload_n 0, 1) := by decide +kernel
theorem tX10_init_14 {d : Nat} {x : Nat} {m : jmM} {Q : Option Value → jmM → Prop} : AW d 135 14 [some (.ref x)] [] m Q ↔ AW d 135 15 [some (.ref x)] [.ref x] m Q := A_aload_n hB_X10_init dX10_init_14 rfl
theorem dX10_init_15 : decode cX10_init 15 = .ok (.iconst 0, 1) := by decide +kernel
theorem tX10_init_15 {d : Nat} {l0 : Option Value} {v0 : Value} {m : jmM} {Q : Option Value → jmM → Prop} : AW d 135 15 [l0] [v0] m Q ↔ AW d 135 16 [l0] [.int 0, v0] m Q := A_iconst hB_X10_init dX10_init_15 (by decide)
theorem dX10_init_16 : decode cX10_init 16 = .ok (.putfield 16, 3) := by decide +kernel
theorem tX10_init_16 {d : Nat} {l0 : Option Value} {x : Int32} {a : Nat} {m : jmM} {Q : Option Value → jmM → Prop} : AW d 135 16 [l0] [.int x, .ref a] m Q ↔ (mS m a).1 = 10 ∧ AW d 135 19 [l0] [] (cI m a (jup (mI m a) 2 x)) Q := A_putI hB_X10_init dX10_init_16 hO_X10_init fF_10_16 rfl (fun h => Bool.noConfusion h)
theorem dX10_init_19 : decode cX10_init 19 = .ok (.aload_n 0, 1) := by decide +kernel
theorem tX10_init_19 {d : Nat} {x : Nat} {m : jmM} {Q : Option Value → jmM → Prop} : AW d 135 19 [some (.ref x)] [] m Q ↔ AW d 135 20 [some (.ref x)] [.ref x] m Q := A_aload_n hB_X10_init dX10_init_19 rfl
theorem dX10_init_20 : decode cX10_init 20 = .ok (.iconst 0, 1) := by decide +kernel
theorem tX10_init_20 {d : Nat} {l0 : Option Value} {v0 : Value} {m : jmM} {Q : Option Value → jmM → Prop} : AW d 135 20 [l0] [v0] m Q ↔ AW d 135 21 [l0] [.int 0, v0] m Q := A_iconst hB_X10_init dX10_init_20 (by decide)
theorem dX10_init_21 : decode cX10_init 21 = .ok (.putfield 19, 3) := by decide +kernel
theorem tX10_init_21 {d : Nat} {l0 : Option Value} {x : Int32} {a : Nat} {m : jmM} {Q : Option Value → jmM → Prop} : AW d 135 21 [l0] [.int x, .ref a] m Q ↔ (mS m a).1 = 10 ∧ AW d 135 24 [l0] [] (cI m a (jup (mI m a) 3 x)) Q := A_putI hB_X10_init dX10_init_21 hO_X10_init fF_10_19 rfl (fun h => Bool.noConfusion h)
theorem dX10_init_24 : decode cX10_init 24 = .ok (.aload_n 0, 1) := by decide +kernel
theorem tX10_init_24 {d : Nat} {x : Nat} {m : jmM} {Q : Option Value → jmM → Prop} : AW d 135 24 [some (.ref x)] [] m Q ↔ AW d 135 25 [some (.ref x)] [.ref x] m Q := A_aload_n hB_X10_init dX10_init_24 rfl
theorem dX10_init_25 : decode cX10_init 25 = .ok (.iconst 1, 1) := by decide +kernel
theorem tX10_init_25 {d : Nat} {l0 : Option Value} {v0 : Value} {m : jmM} {Q : Option Value → jmM → Prop} : AW d 135 25 [l0] [v0] m Q ↔ AW d 135 26 [l0] [.int 1, v0] m Q := A_iconst hB_X10_init dX10_init_25 (by decide)
theorem dX10_init_26 : decode cX10_init 26 = .ok (.putfield 22, 3) := by decide +kernel
theorem tX10_init_26 {d : Nat} {l0 : Option Value} {x : Int32} {a : Nat} {m : jmM} {Q : Option Value → jmM → Prop} : AW d 135 26 [l0] [.int x, .ref a] m Q ↔ (mS m a).1 = 10 ∧ AW d 135 29 [l0] [] (cI m a (jup (mI m a) 4 x)) Q := A_putI hB_X10_init dX10_init_26 hO_X10_init fF_10_22 rfl (fun h => Bool.noConfusion h)
theorem dX10_init_29 : decode cX10_init 29 = .ok (.aload_n 0, 1) := by decide +kernel
theorem tX10_init_29 {d : Nat} {x : Nat} {m : jmM} {Q : Option Value → jmM → Prop} : AW d 135 29 [some (.ref x)] [] m Q ↔ AW d 135 30 [some (.ref x)] [.ref x] m Q := A_aload_n hB_X10_init dX10_init_29 rfl
theorem dX10_init_30 : decode cX10_init 30 = .ok (.iconst 1, 1) := by decide +kernel
theorem tX10_init_30 {d : Nat} {l0 : Option Value} {v0 : Value} {m : jmM} {Q : Option Value → jmM → Prop} : AW d 135 30 [l0] [v0] m Q ↔ AW d 135 31 [l0] [.int 1, v0] m Q := A_iconst hB_X10_init dX10_init_30 (by decide)
theorem dX10_init_31 : decode cX10_init 31 = .ok (.putfield 25, 3) := by decide +kernel
theorem tX10_init_31 {d : Nat} {l0 : Option Value} {x : Int32} {a : Nat} {m : jmM} {Q : Option Value → jmM → Prop} : AW d 135 31 [l0] [.int x, .ref a] m Q ↔ (mS m a).1 = 10 ∧ AW d 135 34 [l0] [] (cI m a (jup (mI m a) 5 x)) Q := A_putI hB_X10_init dX10_init_31 hO_X10_init fF_10_25 rfl (fun h => Bool.noConfusion h)
theorem dX10_init_34 : decode cX10_init 34 = .ok (.return_, 1) := by decide +kernel
theorem tX10_init_34 {d : Nat} {l0 : Option Value} {m : jmM} {Q : Option Value → jmM → Prop} : AW d 135 34 [l0] [] m Q ↔ Q none m := A_return hB_X10_init dX10_init_34 hR_X10_init
theorem hB_X10_tell : jB 136 = cX10_tell := rfl
theorem hO_X10_tell : jO 136 = 10 := rfl
theorem hR_X10_tell : jRt 136 = none := rfl
theorem nX10_tell (d : Nat) (x0 : Nat) (x1 : Int32) (x2 : Int32) (x3 : Int32) (x4 : Int32) (x5 : Int32) (x6 : Int32) (m : jmM) (Q : Option Value → jmM → Prop) : CC (d + 1) 136 [.ref x0, .int x1, .int x2, .int x3, .int x4, .int x5, .int x6] m Q ↔ AW d 136 0 [some (.ref x0), some (.int x1), some (.int x2), some (.int x3), some (.int x4), some (.int x5), some (.int x6)] [] m Q := CC_body (Nat.le_of_ble_eq_true rfl)
theorem dX10_tell_0 : decode cX10_tell 0 = .ok (.aload_n 0, 1) := by decide +kernel
theorem tX10_tell_0 {d : Nat} {l1 l2 l3 l4 l5 l6 : Option Value} {x : Nat} {m : jmM} {Q : Option Value → jmM → Prop} : AW d 136 0 [some (.ref x), l1, l2, l3, l4, l5, l6] [] m Q ↔ AW d 136 1 [some (.ref x), l1, l2, l3, l4, l5, l6] [.ref x] m Q := A_aload_n hB_X10_tell dX10_tell_0 rfl
theorem dX10_tell_1 : decode cX10_tell 1 = .ok (.iload_n 1, 1) := by decide +kernel
theorem tX10_tell_1 {d : Nat} {l0 l2 l3 l4 l5 l6 : Option Value} {v0 : Value} {x : Int32} {m : jmM} {Q : Option Value → jmM → Prop} : AW d 136 1 [l0, some (.int x), l2, l3, l4, l5, l6] [v0] m Q ↔ AW d 136 2 [l0, some (.int x), l2, l3, l4, l5, l6] [.int x, v0] m Q := A_iload_n hB_X10_tell dX10_tell_1 rfl
theorem dX10_tell_2 : decode cX10_tell 2 = .ok (.putfield 7, 3) := by decide +kernel
theorem tX10_tell_2 {d : Nat} {l0 l1 l2 l3 l4 l5 l6 : Option Value} {x : Int32} {a : Nat} {m : jmM} {Q : Option Value → jmM → Prop} : AW d 136 2 [l0, l1, l2, l3, l4, l5, l6] [.int x, .ref a] m Q ↔ (mS m a).1 = 10 ∧ AW d 136 5 [l0, l1, l2, l3, l4, l5, l6] [] (cI m a (jup (mI m a) 0 x)) Q := A_putI hB_X10_tell dX10_tell_2 hO_X10_tell fF_10_7 rfl (fun h => Bool.noConfusion h)
theorem dX10_tell_5 : decode cX10_tell 5 = .ok (.aload_n 0, 1) := by decide +kernel
theorem tX10_tell_5 {d : Nat} {l1 l2 l3 l4 l5 l6 : Option Value} {x : Nat} {m : jmM} {Q : Option Value → jmM → Prop} : AW d 136 5 [some (.ref x), l1, l2, l3, l4, l5, l6] [] m Q ↔ AW d 136 6 [some (.ref x), l1, l2, l3, l4, l5, l6] [.ref x] m Q := A_aload_n hB_X10_tell dX10_tell_5 rfl
theorem dX10_tell_6 : decode cX10_tell 6 = .ok (.iload_n 2, 1) := by decide +kernel
theorem tX10_tell_6 {d : Nat} {l0 l1 l3 l4 l5 l6 : Option Value} {v0 : Value} {x : Int32} {m : jmM} {Q : Option Value → jmM → Prop} : AW d 136 6 [l0, l1, some (.int x), l3, l4, l5, l6] [v0] m Q ↔ AW d 136 7 [l0, l1, some (.int x), l3, l4, l5, l6] [.int x, v0] m Q := A_iload_n hB_X10_tell dX10_tell_6 rfl
theorem dX10_tell_7 : decode cX10_tell 7 = .ok (.putfield 13, 3) := by decide +kernel
theorem tX10_tell_7 {d : Nat} {l0 l1 l2 l3 l4 l5 l6 : Option Value} {x : Int32} {a : Nat} {m : jmM} {Q : Option Value → jmM → Prop} : AW d 136 7 [l0, l1, l2, l3, l4, l5, l6] [.int x, .ref a] m Q ↔ (mS m a).1 = 10 ∧ AW d 136 10 [l0, l1, l2, l3, l4, l5, l6] [] (cI m a (jup (mI m a) 1 x)) Q := A_putI hB_X10_tell dX10_tell_7 hO_X10_tell fF_10_13 rfl (fun h => Bool.noConfusion h)
theorem dX10_tell_10 : decode cX10_tell 10 = .ok (.aload_n 0, 1) := by decide +kernel
theorem tX10_tell_10 {d : Nat} {l1 l2 l3 l4 l5 l6 : Option Value} {x : Nat} {m : jmM} {Q : Option Value → jmM → Prop} : AW d 136 10 [some (.ref x), l1, l2, l3, l4, l5, l6] [] m Q ↔ AW d 136 11 [some (.ref x), l1, l2, l3, l4, l5, l6] [.ref x] m Q := A_aload_n hB_X10_tell dX10_tell_10 rfl
theorem dX10_tell_11 : decode cX10_tell 11 = .ok (.iload_n 3, 1) := by decide +kernel
theorem tX10_tell_11 {d : Nat} {l0 l1 l2 l4 l5 l6 : Option Value} {v0 : Value} {x : Int32} {m : jmM} {Q : Option Value → jmM → Prop} : AW d 136 11 [l0, l1, l2, some (.int x), l4, l5, l6] [v0] m Q ↔ AW d 136 12 [l0, l1, l2, some (.int x), l4, l5, l6] [.int x, v0] m Q := A_iload_n hB_X10_tell dX10_tell_11 rfl
theorem dX10_tell_12 : decode cX10_tell 12 = .ok (.putfield 16, 3) := by decide +kernel
theorem tX10_tell_12 {d : Nat} {l0 l1 l2 l3 l4 l5 l6 : Option Value} {x : Int32} {a : Nat} {m : jmM} {Q : Option Value → jmM → Prop} : AW d 136 12 [l0, l1, l2, l3, l4, l5, l6] [.int x, .ref a] m Q ↔ (mS m a).1 = 10 ∧ AW d 136 15 [l0, l1, l2, l3, l4, l5, l6] [] (cI m a (jup (mI m a) 2 x)) Q := A_putI hB_X10_tell dX10_tell_12 hO_X10_tell fF_10_16 rfl (fun h => Bool.noConfusion h)
theorem dX10_tell_15 : decode cX10_tell 15 = .ok (.aload_n 0, 1) := by decide +kernel
theorem tX10_tell_15 {d : Nat} {l1 l2 l3 l4 l5 l6 : Option Value} {x : Nat} {m : jmM} {Q : Option Value → jmM → Prop} : AW d 136 15 [some (.ref x), l1, l2, l3, l4, l5, l6] [] m Q ↔ AW d 136 16 [some (.ref x), l1, l2, l3, l4, l5, l6] [.ref x] m Q := A_aload_n hB_X10_tell dX10_tell_15 rfl
theorem dX10_tell_16 : decode cX10_tell 16 = .ok (.iload 4, 2) := by decide +kernel
theorem tX10_tell_16 {d : Nat} {l0 l1 l2 l3 l5 l6 : Option Value} {v0 : Value} {x : Int32} {m : jmM} {Q : Option Value → jmM → Prop} : AW d 136 16 [l0, l1, l2, l3, some (.int x), l5, l6] [v0] m Q ↔ AW d 136 18 [l0, l1, l2, l3, some (.int x), l5, l6] [.int x, v0] m Q := A_iload hB_X10_tell dX10_tell_16 rfl
theorem dX10_tell_18 : decode cX10_tell 18 = .ok (.putfield 19, 3) := by decide +kernel
theorem tX10_tell_18 {d : Nat} {l0 l1 l2 l3 l4 l5 l6 : Option Value} {x : Int32} {a : Nat} {m : jmM} {Q : Option Value → jmM → Prop} : AW d 136 18 [l0, l1, l2, l3, l4, l5, l6] [.int x, .ref a] m Q ↔ (mS m a).1 = 10 ∧ AW d 136 21 [l0, l1, l2, l3, l4, l5, l6] [] (cI m a (jup (mI m a) 3 x)) Q := A_putI hB_X10_tell dX10_tell_18 hO_X10_tell fF_10_19 rfl (fun h => Bool.noConfusion h)
theorem dX10_tell_21 : decode cX10_tell 21 = .ok (.aload_n 0, 1) := by decide +kernel
theorem tX10_tell_21 {d : Nat} {l1 l2 l3 l4 l5 l6 : Option Value} {x : Nat} {m : jmM} {Q : Option Value → jmM → Prop} : AW d 136 21 [some (.ref x), l1, l2, l3, l4, l5, l6] [] m Q ↔ AW d 136 22 [some (.ref x), l1, l2, l3, l4, l5, l6] [.ref x] m Q := A_aload_n hB_X10_tell dX10_tell_21 rfl
theorem dX10_tell_22 : decode cX10_tell 22 = .ok (.iload 5, 2) := by decide +kernel
theorem tX10_tell_22 {d : Nat} {l0 l1 l2 l3 l4 l6 : Option Value} {v0 : Value} {x : Int32} {m : jmM} {Q : Option Value → jmM → Prop} : AW d 136 22 [l0, l1, l2, l3, l4, some (.int x), l6] [v0] m Q ↔ AW d 136 24 [l0, l1, l2, l3, l4, some (.int x), l6] [.int x, v0] m Q := A_iload hB_X10_tell dX10_tell_22 rfl
theorem dX10_tell_24 : decode cX10_tell 24 = .ok (.putfield 22, 3) := by decide +kernel
theorem tX10_tell_24 {d : Nat} {l0 l1 l2 l3 l4 l5 l6 : Option Value} {x : Int32} {a : Nat} {m : jmM} {Q : Option Value → jmM → Prop} : AW d 136 24 [l0, l1, l2, l3, l4, l5, l6] [.int x, .ref a] m Q ↔ (mS m a).1 = 10 ∧ AW d 136 27 [l0, l1, l2, l3, l4, l5, l6] [] (cI m a (jup (mI m a) 4 x)) Q := A_putI hB_X10_tell dX10_tell_24 hO_X10_tell fF_10_22 rfl (fun h => Bool.noConfusion h)
theorem dX10_tell_27 : decode cX10_tell 27 = .ok (.aload_n 0, 1) := by decide +kernel
theorem tX10_tell_27 {d : Nat} {l1 l2 l3 l4 l5 l6 : Option Value} {x : Nat} {m : jmM} {Q : Option Value → jmM → Prop} : AW d 136 27 [some (.ref x), l1, l2, l3, l4, l5, l6] [] m Q ↔ AW d 136 28 [some (.ref x), l1, l2, l3, l4, l5, l6] [.ref x] m Q := A_aload_n hB_X10_tell dX10_tell_27 rfl
theorem dX10_tell_28 : decode cX10_tell 28 = .ok (.iload 6, 2) := by decide +kernel
theorem tX10_tell_28 {d : Nat} {l0 l1 l2 l3 l4 l5 : Option Value} {v0 : Value} {x : Int32} {m : jmM} {Q : Option Value → jmM → Prop} : AW d 136 28 [l0, l1, l2, l3, l4, l5, some (.int x)] [v0] m Q ↔ AW d 136 30 [l0, l1, l2, l3, l4, l5, some (.int x)] [.int x, v0] m Q := A_iload hB_X10_tell dX10_tell_28 rfl
theorem dX10_tell_30 : decode cX10_tell 30 = .ok (.putfield 25, 3) := by decide +kernel
theorem tX10_tell_30 {d : Nat} {l0 l1 l2 l3 l4 l5 l6 : Option Value} {x : Int32} {a : Nat} {m : jmM} {Q : Option Value → jmM → Prop} : AW d 136 30 [l0, l1, l2, l3, l4, l5, l6] [.int x, .ref a] m Q ↔ (mS m a).1 = 10 ∧ AW d 136 33 [l0, l1, l2, l3, l4, l5, l6] [] (cI m a (jup (mI m a) 5 x)) Q := A_putI hB_X10_tell dX10_tell_30 hO_X10_tell fF_10_25 rfl (fun h => Bool.noConfusion h)
theorem dX10_tell_33 : decode cX10_tell 33 = .ok (.return_, 1) := by decide +kernel
theorem tX10_tell_33 {d : Nat} {l0 l1 l2 l3 l4 l5 l6 : Option Value} {m : jmM} {Q : Option Value → jmM → Prop} : AW d 136 33 [l0, l1, l2, l3, l4, l5, l6] [] m Q ↔ Q none m := A_return hB_X10_tell dX10_tell_33 hR_X10_tell
theorem hB_X10_length : jB 137 = cX10_length := rfl
theorem hO_X10_length : jO 137 = 10 := rfl
theorem hR_X10_length : jRt 137 = (some .int) := rfl
theorem nX10_length (d : Nat) (x0 : Nat) (m : jmM) (Q : Option Value → jmM → Prop) : CC (d + 1) 137 [.ref x0] m Q ↔ AW d 137 0 [some (.ref x0)] [] m Q := CC_body (Nat.le_of_ble_eq_true rfl)
theorem dX10_length_0 : decode cX10_length 0 = .ok (.aload_n 0, 1) := by decide +kernel
theorem tX10_length_0 {d : Nat} {x : Nat} {m : jmM} {Q : Option Value → jmM → Prop} : AW d 137 0 [some (.ref x)] [] m Q ↔ AW d 137 1 [some (.ref x)] [.ref x] m Q := A_aload_n hB_X10_length dX10_length_0 rfl
theorem dX10_length_1 : decode cX10_length 1 = .ok (.getfield 22, 3) := by decide +kernel
theorem tX10_length_1 {d : Nat} {l0 : Option Value} {a : Nat} {m : jmM} {Q : Option Value → jmM → Prop} : AW d 137 1 [l0] [.ref a] m Q ↔ (mS m a).1 = 10 ∧ AW d 137 4 [l0] [.int (mI m a 4)] m Q := A_getfield (f := fun m a => .int (mI m a 4)) hB_X10_length dX10_length_1 hO_X10_length fF_10_22 rfl
theorem dX10_length_4 : decode cX10_length 4 = .ok (.ireturn, 1) := by decide +kernel
theorem tX10_length_4 {d : Nat} {l0 : Option Value} {x : Int32} {m : jmM} {Q : Option Value → jmM → Prop} : AW d 137 4 [l0] [.int x] m Q ↔ Q (some (.int x)) m := A_ireturn hB_X10_length dX10_length_4 hR_X10_length
theorem hB_X10_coins : jB 138 = cX10_coins := rfl
theorem hO_X10_coins : jO 138 = 10 := rfl
theorem hR_X10_coins : jRt 138 = (some .int) := rfl
theorem nX10_coins (d : Nat) (x0 : Nat) (m : jmM) (Q : Option Value → jmM → Prop) : CC (d + 1) 138 [.ref x0] m Q ↔ AW d 138 0 [some (.ref x0)] [] m Q := CC_body (Nat.le_of_ble_eq_true rfl)
theorem dX10_coins_0 : decode cX10_coins 0 = .ok (.aload_n 0, 1) := by decide +kernel
theorem tX10_coins_0 {d : Nat} {x : Nat} {m : jmM} {Q : Option Value → jmM → Prop} : AW d 138 0 [some (.ref x)] [] m Q ↔ AW d 138 1 [some (.ref x)] [.ref x] m Q := A_aload_n hB_X10_coins dX10_coins_0 rfl
theorem dX10_coins_1 : decode cX10_coins 1 = .ok (.getfield 25, 3) := by decide +kernel
theorem tX10_coins_1 {d : Nat} {l0 : Option Value} {a : Nat} {m : jmM} {Q : Option Value → jmM → Prop} : AW d 138 1 [l0] [.ref a] m Q ↔ (mS m a).1 = 10 ∧ AW d 138 4 [l0] [.int (mI m a 5)] m Q := A_getfield (f := fun m a => .int (mI m a 5)) hB_X10_coins dX10_coins_1 hO_X10_coins fF_10_25 rfl
theorem dX10_coins_4 : decode cX10_coins 4 = .ok (.ireturn, 1) := by decide +kernel
theorem tX10_coins_4 {d : Nat} {l0 : Option Value} {x : Int32} {m : jmM} {Q : Option Value → jmM → Prop} : AW d 138 4 [l0] [.int x] m Q ↔ Q (some (.int x)) m := A_ireturn hB_X10_coins dX10_coins_4 hR_X10_coins
theorem hB_X10_reasonsAgainst : jB 139 = cX10_reasonsAgainst := rfl
theorem hO_X10_reasonsAgainst : jO 139 = 10 := rfl
theorem hR_X10_reasonsAgainst : jRt 139 = (some .int) := rfl
theorem nX10_reasonsAgainst (d : Nat) (x0 : Nat) (x1 : Nat) (x2 : Int32) (x3 : Int32) (x4 : Int32) (m : jmM) (Q : Option Value → jmM → Prop) : CC (d + 1) 139 [.ref x0, .ref x1, .int x2, .int x3, .int x4] m Q ↔ AW d 139 0 [some (.ref x0), some (.ref x1), some (.int x2), some (.int x3), some (.int x4), none, none, none] [] m Q := CC_body (Nat.le_of_ble_eq_true rfl)
theorem dX10_reasonsAgainst_0 : decode cX10_reasonsAgainst 0 = .ok (.aload_n 1, 1) := by decide +kernel
theorem tX10_reasonsAgainst_0 {d : Nat} {l0 l2 l3 l4 l5 l6 l7 : Option Value} {x : Nat} {m : jmM} {Q : Option Value → jmM → Prop} : AW d 139 0 [l0, some (.ref x), l2, l3, l4, l5, l6, l7] [] m Q ↔ AW d 139 1 [l0, some (.ref x), l2, l3, l4, l5, l6, l7] [.ref x] m Q := A_aload_n hB_X10_reasonsAgainst dX10_reasonsAgainst_0 rfl
theorem dX10_reasonsAgainst_1 : decode cX10_reasonsAgainst 1 = .ok (.aload_n 0, 1) := by decide +kernel
theorem tX10_reasonsAgainst_1 {d : Nat} {l1 l2 l3 l4 l5 l6 l7 : Option Value} {v0 : Value} {x : Nat} {m : jmM} {Q : Option Value → jmM → Prop} : AW d 139 1 [some (.ref x), l1, l2, l3, l4, l5, l6, l7] [v0] m Q ↔ AW d 139 2 [some (.ref x), l1, l2, l3, l4, l5, l6, l7] [.ref x, v0] m Q := A_aload_n hB_X10_reasonsAgainst dX10_reasonsAgainst_1 rfl
theorem dX10_reasonsAgainst_2 : decode cX10_reasonsAgainst 2 = .ok (.getfield 7, 3) := by decide +kernel
theorem tX10_reasonsAgainst_2 {d : Nat} {l0 l1 l2 l3 l4 l5 l6 l7 : Option Value} {v1 : Value} {a : Nat} {m : jmM} {Q : Option Value → jmM → Prop} : AW d 139 2 [l0, l1, l2, l3, l4, l5, l6, l7] [.ref a, v1] m Q ↔ (mS m a).1 = 10 ∧ AW d 139 5 [l0, l1, l2, l3, l4, l5, l6, l7] [.int (mI m a 0), v1] m Q := A_getfield (f := fun m a => .int (mI m a 0)) hB_X10_reasonsAgainst dX10_reasonsAgainst_2 hO_X10_reasonsAgainst fF_10_7 rfl
theorem dX10_reasonsAgainst_5 : decode cX10_reasonsAgainst 5 = .ok (.iload_n 2, 1) := by decide +kernel
theorem tX10_reasonsAgainst_5 {d : Nat} {l0 l1 l3 l4 l5 l6 l7 : Option Value} {v0 v1 : Value} {x : Int32} {m : jmM} {Q : Option Value → jmM → Prop} : AW d 139 5 [l0, l1, some (.int x), l3, l4, l5, l6, l7] [v0, v1] m Q ↔ AW d 139 6 [l0, l1, some (.int x), l3, l4, l5, l6, l7] [.int x, v0, v1] m Q := A_iload_n hB_X10_reasonsAgainst dX10_reasonsAgainst_5 rfl
theorem dX10_reasonsAgainst_6 : decode cX10_reasonsAgainst 6 = .ok (.invokevirtual 28, 3) := by decide +kernel
theorem tX10_reasonsAgainst_6 {d : Nat} {l0 l1 l2 l3 l4 l5 l6 l7 : Option Value} {y0 y1 : Value} {a : Nat} {m : jmM} {Q : Option Value → jmM → Prop} : AW d 139 6 [l0, l1, l2, l3, l4, l5, l6, l7] [y0, y1, .ref a] m Q ↔ (mS m a).1 = 5 ∧ CC d 87 [.ref a, y1, y0] m (jK d 139 9 [l0, l1, l2, l3, l4, l5, l6, l7] [] Q) := A_callV hB_X10_reasonsAgainst dX10_reasonsAgainst_6 hO_X10_reasonsAgainst fS_10_28 ⟨Nat.le_of_ble_eq_true rfl, Nat.le_of_ble_eq_true rfl⟩ rfl rfl rfl
theorem dX10_reasonsAgainst_9 : decode cX10_reasonsAgainst 9 = .ok (.lstore 5, 2) := by decide +kernel
theorem tX10_reasonsAgainst_9 {d : Nat} {l0 l1 l2 l3 l4 l5 l6 l7 : Option Value} {x : Int64} {m : jmM} {Q : Option Value → jmM → Prop} : AW d 139 9 [l0, l1, l2, l3, l4, l5, l6, l7] [.long x] m Q ↔ AW d 139 11 [l0, l1, l2, l3, jc1 l4, some (.long x), none, l7] [] m Q := A_lstore hB_X10_reasonsAgainst dX10_reasonsAgainst_9 (Nat.le_of_ble_eq_true rfl) rfl
theorem dX10_reasonsAgainst_11 : decode cX10_reasonsAgainst 11 = .ok (.iload_n 2, 1) := by decide +kernel
theorem tX10_reasonsAgainst_11 {d : Nat} {l0 l1 l3 l4 l5 l6 l7 : Option Value} {x : Int32} {m : jmM} {Q : Option Value → jmM → Prop} : AW d 139 11 [l0, l1, some (.int x), l3, l4, l5, l6, l7] [] m Q ↔ AW d 139 12 [l0, l1, some (.int x), l3, l4, l5, l6, l7] [.int x] m Q := A_iload_n hB_X10_reasonsAgainst dX10_reasonsAgainst_11 rfl
theorem dX10_reasonsAgainst_12 : decode cX10_reasonsAgainst 12 = .ok (.iload_n 3, 1) := by decide +kernel
theorem tX10_reasonsAgainst_12 {d : Nat} {l0 l1 l2 l4 l5 l6 l7 : Option Value} {v0 : Value} {x : Int32} {m : jmM} {Q : Option Value → jmM → Prop} : AW d 139 12 [l0, l1, l2, some (.int x), l4, l5, l6, l7] [v0] m Q ↔ AW d 139 13 [l0, l1, l2, some (.int x), l4, l5, l6, l7] [.int x, v0] m Q := A_iload_n hB_X10_reasonsAgainst dX10_reasonsAgainst_12 rfl
theorem dX10_reasonsAgainst_13 : decode cX10_reasonsAgainst 13 = .ok (.if_icmp .ge 7, 3) := by decide +kernel
theorem tX10_reasonsAgainst_13 {d : Nat} {l0 l1 l2 l3 l4 l5 l6 l7 : Option Value} {x y : Int32} {m : jmM} {Q : Option Value → jmM → Prop} : AW d 139 13 [l0, l1, l2, l3, l4, l5, l6, l7] [.int y, .int x] m Q ↔ if y ≤ x then AW d 139 20 [l0, l1, l2, l3, l4, l5, l6, l7] [] m Q else AW d 139 16 [l0, l1, l2, l3, l4, l5, l6, l7] [] m Q := A_icmp_ge hB_X10_reasonsAgainst dX10_reasonsAgainst_13 (by decide)
theorem dX10_reasonsAgainst_16 : decode cX10_reasonsAgainst 16 = .ok (.iconst 1, 1) := by decide +kernel
theorem tX10_reasonsAgainst_16 {d : Nat} {l0 l1 l2 l3 l4 l5 l6 l7 : Option Value} {m : jmM} {Q : Option Value → jmM → Prop} : AW d 139 16 [l0, l1, l2, l3, l4, l5, l6, l7] [] m Q ↔ AW d 139 17 [l0, l1, l2, l3, l4, l5, l6, l7] [.int 1] m Q := A_iconst hB_X10_reasonsAgainst dX10_reasonsAgainst_16 (by decide)
theorem dX10_reasonsAgainst_17 : decode cX10_reasonsAgainst 17 = .ok (.goto 4, 3) := by decide +kernel
theorem tX10_reasonsAgainst_17 {d : Nat} {l0 l1 l2 l3 l4 l5 l6 l7 : Option Value} {v0 : Value} {m : jmM} {Q : Option Value → jmM → Prop} : AW d 139 17 [l0, l1, l2, l3, l4, l5, l6, l7] [v0] m Q ↔ AW d 139 21 [l0, l1, l2, l3, l4, l5, l6, l7] [v0] m Q := A_goto hB_X10_reasonsAgainst dX10_reasonsAgainst_17 (by decide)
theorem dX10_reasonsAgainst_20 : decode cX10_reasonsAgainst 20 = .ok (.iconst 0, 1) := by decide +kernel
theorem tX10_reasonsAgainst_20 {d : Nat} {l0 l1 l2 l3 l4 l5 l6 l7 : Option Value} {m : jmM} {Q : Option Value → jmM → Prop} : AW d 139 20 [l0, l1, l2, l3, l4, l5, l6, l7] [] m Q ↔ AW d 139 21 [l0, l1, l2, l3, l4, l5, l6, l7] [.int 0] m Q := A_iconst hB_X10_reasonsAgainst dX10_reasonsAgainst_20 (by decide)
theorem dX10_reasonsAgainst_21 : decode cX10_reasonsAgainst 21 = .ok (.istore 7, 2) := by decide +kernel
theorem tX10_reasonsAgainst_21 {d : Nat} {l0 l1 l2 l3 l4 l5 l6 l7 : Option Value} {x : Int32} {m : jmM} {Q : Option Value → jmM → Prop} : AW d 139 21 [l0, l1, l2, l3, l4, l5, l6, l7] [.int x] m Q ↔ AW d 139 23 [l0, l1, l2, l3, l4, l5, jc1 l6, some (.int x)] [] m Q := A_istore hB_X10_reasonsAgainst dX10_reasonsAgainst_21 (Nat.le_of_ble_eq_true rfl) rfl
theorem dX10_reasonsAgainst_23 : decode cX10_reasonsAgainst 23 = .ok (.iload 7, 2) := by decide +kernel
theorem tX10_reasonsAgainst_23 {d : Nat} {l0 l1 l2 l3 l4 l5 l6 : Option Value} {x : Int32} {m : jmM} {Q : Option Value → jmM → Prop} : AW d 139 23 [l0, l1, l2, l3, l4, l5, l6, some (.int x)] [] m Q ↔ AW d 139 25 [l0, l1, l2, l3, l4, l5, l6, some (.int x)] [.int x] m Q := A_iload hB_X10_reasonsAgainst dX10_reasonsAgainst_23 rfl
theorem dX10_reasonsAgainst_25 : decode cX10_reasonsAgainst 25 = .ok (.iload_n 2, 1) := by decide +kernel
theorem tX10_reasonsAgainst_25 {d : Nat} {l0 l1 l3 l4 l5 l6 l7 : Option Value} {v0 : Value} {x : Int32} {m : jmM} {Q : Option Value → jmM → Prop} : AW d 139 25 [l0, l1, some (.int x), l3, l4, l5, l6, l7] [v0] m Q ↔ AW d 139 26 [l0, l1, some (.int x), l3, l4, l5, l6, l7] [.int x, v0] m Q := A_iload_n hB_X10_reasonsAgainst dX10_reasonsAgainst_25 rfl
theorem dX10_reasonsAgainst_26 : decode cX10_reasonsAgainst 26 = .ok (.iload 4, 2) := by decide +kernel
theorem tX10_reasonsAgainst_26 {d : Nat} {l0 l1 l2 l3 l5 l6 l7 : Option Value} {v0 v1 : Value} {x : Int32} {m : jmM} {Q : Option Value → jmM → Prop} : AW d 139 26 [l0, l1, l2, l3, some (.int x), l5, l6, l7] [v0, v1] m Q ↔ AW d 139 28 [l0, l1, l2, l3, some (.int x), l5, l6, l7] [.int x, v0, v1] m Q := A_iload hB_X10_reasonsAgainst dX10_reasonsAgainst_26 rfl
theorem dX10_reasonsAgainst_28 : decode cX10_reasonsAgainst 28 = .ok (.if_icmp .lt 7, 3) := by decide +kernel
theorem tX10_reasonsAgainst_28 {d : Nat} {l0 l1 l2 l3 l4 l5 l6 l7 : Option Value} {v2 : Value} {x y : Int32} {m : jmM} {Q : Option Value → jmM → Prop} : AW d 139 28 [l0, l1, l2, l3, l4, l5, l6, l7] [.int y, .int x, v2] m Q ↔ if x < y then AW d 139 35 [l0, l1, l2, l3, l4, l5, l6, l7] [v2] m Q else AW d 139 31 [l0, l1, l2, l3, l4, l5, l6, l7] [v2] m Q := A_icmp_lt hB_X10_reasonsAgainst dX10_reasonsAgainst_28 (by decide)
theorem dX10_reasonsAgainst_31 : decode cX10_reasonsAgainst 31 = .ok (.iconst 2, 1) := by decide +kernel
theorem tX10_reasonsAgainst_31 {d : Nat} {l0 l1 l2 l3 l4 l5 l6 l7 : Option Value} {v0 : Value} {m : jmM} {Q : Option Value → jmM → Prop} : AW d 139 31 [l0, l1, l2, l3, l4, l5, l6, l7] [v0] m Q ↔ AW d 139 32 [l0, l1, l2, l3, l4, l5, l6, l7] [.int 2, v0] m Q := A_iconst hB_X10_reasonsAgainst dX10_reasonsAgainst_31 (by decide)
theorem dX10_reasonsAgainst_32 : decode cX10_reasonsAgainst 32 = .ok (.goto 4, 3) := by decide +kernel
theorem tX10_reasonsAgainst_32 {d : Nat} {l0 l1 l2 l3 l4 l5 l6 l7 : Option Value} {v0 v1 : Value} {m : jmM} {Q : Option Value → jmM → Prop} : AW d 139 32 [l0, l1, l2, l3, l4, l5, l6, l7] [v0, v1] m Q ↔ AW d 139 36 [l0, l1, l2, l3, l4, l5, l6, l7] [v0, v1] m Q := A_goto hB_X10_reasonsAgainst dX10_reasonsAgainst_32 (by decide)
theorem dX10_reasonsAgainst_35 : decode cX10_reasonsAgainst 35 = .ok (.iconst 0, 1) := by decide +kernel
theorem tX10_reasonsAgainst_35 {d : Nat} {l0 l1 l2 l3 l4 l5 l6 l7 : Option Value} {v0 : Value} {m : jmM} {Q : Option Value → jmM → Prop} : AW d 139 35 [l0, l1, l2, l3, l4, l5, l6, l7] [v0] m Q ↔ AW d 139 36 [l0, l1, l2, l3, l4, l5, l6, l7] [.int 0, v0] m Q := A_iconst hB_X10_reasonsAgainst dX10_reasonsAgainst_35 (by decide)
theorem dX10_reasonsAgainst_36 : decode cX10_reasonsAgainst 36 = .ok (.iadd, 1) := by decide +kernel
theorem tX10_reasonsAgainst_36 {d : Nat} {l0 l1 l2 l3 l4 l5 l6 l7 : Option Value} {x y : Int32} {m : jmM} {Q : Option Value → jmM → Prop} : AW d 139 36 [l0, l1, l2, l3, l4, l5, l6, l7] [.int y, .int x] m Q ↔ AW d 139 37 [l0, l1, l2, l3, l4, l5, l6, l7] [.int (x + y)] m Q := A_iadd hB_X10_reasonsAgainst dX10_reasonsAgainst_36
theorem dX10_reasonsAgainst_37 : decode cX10_reasonsAgainst 37 = .ok (.istore 7, 2) := by decide +kernel
theorem tX10_reasonsAgainst_37 {d : Nat} {l0 l1 l2 l3 l4 l5 l6 l7 : Option Value} {x : Int32} {m : jmM} {Q : Option Value → jmM → Prop} : AW d 139 37 [l0, l1, l2, l3, l4, l5, l6, l7] [.int x] m Q ↔ AW d 139 39 [l0, l1, l2, l3, l4, l5, jc1 l6, some (.int x)] [] m Q := A_istore hB_X10_reasonsAgainst dX10_reasonsAgainst_37 (Nat.le_of_ble_eq_true rfl) rfl
theorem dX10_reasonsAgainst_39 : decode cX10_reasonsAgainst 39 = .ok (.iload 7, 2) := by decide +kernel
theorem tX10_reasonsAgainst_39 {d : Nat} {l0 l1 l2 l3 l4 l5 l6 : Option Value} {x : Int32} {m : jmM} {Q : Option Value → jmM → Prop} : AW d 139 39 [l0, l1, l2, l3, l4, l5, l6, some (.int x)] [] m Q ↔ AW d 139 41 [l0, l1, l2, l3, l4, l5, l6, some (.int x)] [.int x] m Q := A_iload hB_X10_reasonsAgainst dX10_reasonsAgainst_39 rfl
theorem dX10_reasonsAgainst_41 : decode cX10_reasonsAgainst 41 = .ok (.aload_n 1, 1) := by decide +kernel
theorem tX10_reasonsAgainst_41 {d : Nat} {l0 l2 l3 l4 l5 l6 l7 : Option Value} {v0 : Value} {x : Nat} {m : jmM} {Q : Option Value → jmM → Prop} : AW d 139 41 [l0, some (.ref x), l2, l3, l4, l5, l6, l7] [v0] m Q ↔ AW d 139 42 [l0, some (.ref x), l2, l3, l4, l5, l6, l7] [.ref x, v0] m Q := A_aload_n hB_X10_reasonsAgainst dX10_reasonsAgainst_41 rfl
theorem dX10_reasonsAgainst_42 : decode cX10_reasonsAgainst 42 = .ok (.iload_n 2, 1) := by decide +kernel
theorem tX10_reasonsAgainst_42 {d : Nat} {l0 l1 l3 l4 l5 l6 l7 : Option Value} {v0 v1 : Value} {x : Int32} {m : jmM} {Q : Option Value → jmM → Prop} : AW d 139 42 [l0, l1, some (.int x), l3, l4, l5, l6, l7] [v0, v1] m Q ↔ AW d 139 43 [l0, l1, some (.int x), l3, l4, l5, l6, l7] [.int x, v0, v1] m Q := A_iload_n hB_X10_reasonsAgainst dX10_reasonsAgainst_42 rfl
theorem dX10_reasonsAgainst_43 : decode cX10_reasonsAgainst 43 = .ok (.invokevirtual 34, 3) := by decide +kernel
theorem tX10_reasonsAgainst_43 {d : Nat} {l0 l1 l2 l3 l4 l5 l6 l7 : Option Value} {v2 : Value} {y0 : Value} {a : Nat} {m : jmM} {Q : Option Value → jmM → Prop} : AW d 139 43 [l0, l1, l2, l3, l4, l5, l6, l7] [y0, .ref a, v2] m Q ↔ (mS m a).1 = 5 ∧ CC d 81 [.ref a, y0] m (jK d 139 46 [l0, l1, l2, l3, l4, l5, l6, l7] [v2] Q) := A_callV hB_X10_reasonsAgainst dX10_reasonsAgainst_43 hO_X10_reasonsAgainst fS_10_34 ⟨Nat.le_of_ble_eq_true rfl, Nat.le_of_ble_eq_true rfl⟩ rfl rfl rfl
theorem dX10_reasonsAgainst_46 : decode cX10_reasonsAgainst 46 = .ok (.aload_n 0, 1) := by decide +kernel
theorem tX10_reasonsAgainst_46 {d : Nat} {l1 l2 l3 l4 l5 l6 l7 : Option Value} {v0 v1 : Value} {x : Nat} {m : jmM} {Q : Option Value → jmM → Prop} : AW d 139 46 [some (.ref x), l1, l2, l3, l4, l5, l6, l7] [v0, v1] m Q ↔ AW d 139 47 [some (.ref x), l1, l2, l3, l4, l5, l6, l7] [.ref x, v0, v1] m Q := A_aload_n hB_X10_reasonsAgainst dX10_reasonsAgainst_46 rfl
theorem dX10_reasonsAgainst_47 : decode cX10_reasonsAgainst 47 = .ok (.getfield 19, 3) := by decide +kernel
theorem tX10_reasonsAgainst_47 {d : Nat} {l0 l1 l2 l3 l4 l5 l6 l7 : Option Value} {v1 v2 : Value} {a : Nat} {m : jmM} {Q : Option Value → jmM → Prop} : AW d 139 47 [l0, l1, l2, l3, l4, l5, l6, l7] [.ref a, v1, v2] m Q ↔ (mS m a).1 = 10 ∧ AW d 139 50 [l0, l1, l2, l3, l4, l5, l6, l7] [.int (mI m a 3), v1, v2] m Q := A_getfield (f := fun m a => .int (mI m a 3)) hB_X10_reasonsAgainst dX10_reasonsAgainst_47 hO_X10_reasonsAgainst fF_10_19 rfl
theorem dX10_reasonsAgainst_50 : decode cX10_reasonsAgainst 50 = .ok (.if_icmp .ge 7, 3) := by decide +kernel
theorem tX10_reasonsAgainst_50 {d : Nat} {l0 l1 l2 l3 l4 l5 l6 l7 : Option Value} {v2 : Value} {x y : Int32} {m : jmM} {Q : Option Value → jmM → Prop} : AW d 139 50 [l0, l1, l2, l3, l4, l5, l6, l7] [.int y, .int x, v2] m Q ↔ if y ≤ x then AW d 139 57 [l0, l1, l2, l3, l4, l5, l6, l7] [v2] m Q else AW d 139 53 [l0, l1, l2, l3, l4, l5, l6, l7] [v2] m Q := A_icmp_ge hB_X10_reasonsAgainst dX10_reasonsAgainst_50 (by decide)
theorem dX10_reasonsAgainst_53 : decode cX10_reasonsAgainst 53 = .ok (.iconst 4, 1) := by decide +kernel
theorem tX10_reasonsAgainst_53 {d : Nat} {l0 l1 l2 l3 l4 l5 l6 l7 : Option Value} {v0 : Value} {m : jmM} {Q : Option Value → jmM → Prop} : AW d 139 53 [l0, l1, l2, l3, l4, l5, l6, l7] [v0] m Q ↔ AW d 139 54 [l0, l1, l2, l3, l4, l5, l6, l7] [.int 4, v0] m Q := A_iconst hB_X10_reasonsAgainst dX10_reasonsAgainst_53 (by decide)
theorem dX10_reasonsAgainst_54 : decode cX10_reasonsAgainst 54 = .ok (.goto 4, 3) := by decide +kernel
theorem tX10_reasonsAgainst_54 {d : Nat} {l0 l1 l2 l3 l4 l5 l6 l7 : Option Value} {v0 v1 : Value} {m : jmM} {Q : Option Value → jmM → Prop} : AW d 139 54 [l0, l1, l2, l3, l4, l5, l6, l7] [v0, v1] m Q ↔ AW d 139 58 [l0, l1, l2, l3, l4, l5, l6, l7] [v0, v1] m Q := A_goto hB_X10_reasonsAgainst dX10_reasonsAgainst_54 (by decide)
theorem dX10_reasonsAgainst_57 : decode cX10_reasonsAgainst 57 = .ok (.iconst 0, 1) := by decide +kernel
theorem tX10_reasonsAgainst_57 {d : Nat} {l0 l1 l2 l3 l4 l5 l6 l7 : Option Value} {v0 : Value} {m : jmM} {Q : Option Value → jmM → Prop} : AW d 139 57 [l0, l1, l2, l3, l4, l5, l6, l7] [v0] m Q ↔ AW d 139 58 [l0, l1, l2, l3, l4, l5, l6, l7] [.int 0, v0] m Q := A_iconst hB_X10_reasonsAgainst dX10_reasonsAgainst_57 (by decide)
theorem dX10_reasonsAgainst_58 : decode cX10_reasonsAgainst 58 = .ok (.iadd, 1) := by decide +kernel
theorem tX10_reasonsAgainst_58 {d : Nat} {l0 l1 l2 l3 l4 l5 l6 l7 : Option Value} {x y : Int32} {m : jmM} {Q : Option Value → jmM → Prop} : AW d 139 58 [l0, l1, l2, l3, l4, l5, l6, l7] [.int y, .int x] m Q ↔ AW d 139 59 [l0, l1, l2, l3, l4, l5, l6, l7] [.int (x + y)] m Q := A_iadd hB_X10_reasonsAgainst dX10_reasonsAgainst_58
theorem dX10_reasonsAgainst_59 : decode cX10_reasonsAgainst 59 = .ok (.istore 7, 2) := by decide +kernel
theorem tX10_reasonsAgainst_59 {d : Nat} {l0 l1 l2 l3 l4 l5 l6 l7 : Option Value} {x : Int32} {m : jmM} {Q : Option Value → jmM → Prop} : AW d 139 59 [l0, l1, l2, l3, l4, l5, l6, l7] [.int x] m Q ↔ AW d 139 61 [l0, l1, l2, l3, l4, l5, jc1 l6, some (.int x)] [] m Q := A_istore hB_X10_reasonsAgainst dX10_reasonsAgainst_59 (Nat.le_of_ble_eq_true rfl) rfl
theorem dX10_reasonsAgainst_61 : decode cX10_reasonsAgainst 61 = .ok (.iload 7, 2) := by decide +kernel
theorem tX10_reasonsAgainst_61 {d : Nat} {l0 l1 l2 l3 l4 l5 l6 : Option Value} {x : Int32} {m : jmM} {Q : Option Value → jmM → Prop} : AW d 139 61 [l0, l1, l2, l3, l4, l5, l6, some (.int x)] [] m Q ↔ AW d 139 63 [l0, l1, l2, l3, l4, l5, l6, some (.int x)] [.int x] m Q := A_iload hB_X10_reasonsAgainst dX10_reasonsAgainst_61 rfl
theorem dX10_reasonsAgainst_63 : decode cX10_reasonsAgainst 63 = .ok (.lload 5, 2) := by decide +kernel
theorem tX10_reasonsAgainst_63 {d : Nat} {l0 l1 l2 l3 l4 l6 l7 : Option Value} {v0 : Value} {x : Int64} {m : jmM} {Q : Option Value → jmM → Prop} : AW d 139 63 [l0, l1, l2, l3, l4, some (.long x), l6, l7] [v0] m Q ↔ AW d 139 65 [l0, l1, l2, l3, l4, some (.long x), l6, l7] [.long x, v0] m Q := A_lload hB_X10_reasonsAgainst dX10_reasonsAgainst_63 rfl
theorem dX10_reasonsAgainst_65 : decode cX10_reasonsAgainst 65 = .ok (.aload_n 0, 1) := by decide +kernel
theorem tX10_reasonsAgainst_65 {d : Nat} {l1 l2 l3 l4 l5 l6 l7 : Option Value} {v0 v1 : Value} {x : Nat} {m : jmM} {Q : Option Value → jmM → Prop} : AW d 139 65 [some (.ref x), l1, l2, l3, l4, l5, l6, l7] [v0, v1] m Q ↔ AW d 139 66 [some (.ref x), l1, l2, l3, l4, l5, l6, l7] [.ref x, v0, v1] m Q := A_aload_n hB_X10_reasonsAgainst dX10_reasonsAgainst_65 rfl
theorem dX10_reasonsAgainst_66 : decode cX10_reasonsAgainst 66 = .ok (.getfield 13, 3) := by decide +kernel
theorem tX10_reasonsAgainst_66 {d : Nat} {l0 l1 l2 l3 l4 l5 l6 l7 : Option Value} {v1 v2 : Value} {a : Nat} {m : jmM} {Q : Option Value → jmM → Prop} : AW d 139 66 [l0, l1, l2, l3, l4, l5, l6, l7] [.ref a, v1, v2] m Q ↔ (mS m a).1 = 10 ∧ AW d 139 69 [l0, l1, l2, l3, l4, l5, l6, l7] [.int (mI m a 1), v1, v2] m Q := A_getfield (f := fun m a => .int (mI m a 1)) hB_X10_reasonsAgainst dX10_reasonsAgainst_66 hO_X10_reasonsAgainst fF_10_13 rfl
theorem dX10_reasonsAgainst_69 : decode cX10_reasonsAgainst 69 = .ok (.i2l, 1) := by decide +kernel
theorem tX10_reasonsAgainst_69 {d : Nat} {l0 l1 l2 l3 l4 l5 l6 l7 : Option Value} {v1 v2 : Value} {x : Int32} {m : jmM} {Q : Option Value → jmM → Prop} : AW d 139 69 [l0, l1, l2, l3, l4, l5, l6, l7] [.int x, v1, v2] m Q ↔ AW d 139 70 [l0, l1, l2, l3, l4, l5, l6, l7] [.long x.toInt64, v1, v2] m Q := A_i2l hB_X10_reasonsAgainst dX10_reasonsAgainst_69
theorem dX10_reasonsAgainst_70 : decode cX10_reasonsAgainst 70 = .ok (.lcmp, 1) := by decide +kernel
theorem tX10_reasonsAgainst_70 {d : Nat} {l0 l1 l2 l3 l4 l5 l6 l7 : Option Value} {v2 : Value} {x y : Int64} {m : jmM} {Q : Option Value → jmM → Prop} : AW d 139 70 [l0, l1, l2, l3, l4, l5, l6, l7] [.long y, .long x, v2] m Q ↔ AW d 139 71 [l0, l1, l2, l3, l4, l5, l6, l7] [.int (lg_cmp x y), v2] m Q := A_lcmp hB_X10_reasonsAgainst dX10_reasonsAgainst_70
theorem dX10_reasonsAgainst_71 : decode cX10_reasonsAgainst 71 = .ok (.ifCond .ge 8, 3) := by decide +kernel
theorem tX10_reasonsAgainst_71 {d : Nat} {l0 l1 l2 l3 l4 l5 l6 l7 : Option Value} {v1 : Value} {x : Int32} {m : jmM} {Q : Option Value → jmM → Prop} : AW d 139 71 [l0, l1, l2, l3, l4, l5, l6, l7] [.int x, v1] m Q ↔ if 0 ≤ x then AW d 139 79 [l0, l1, l2, l3, l4, l5, l6, l7] [v1] m Q else AW d 139 74 [l0, l1, l2, l3, l4, l5, l6, l7] [v1] m Q := A_if_ge hB_X10_reasonsAgainst dX10_reasonsAgainst_71 (by decide)
theorem dX10_reasonsAgainst_74 : decode cX10_reasonsAgainst 74 = .ok (.bipush 8, 2) := by decide +kernel
theorem tX10_reasonsAgainst_74 {d : Nat} {l0 l1 l2 l3 l4 l5 l6 l7 : Option Value} {v0 : Value} {m : jmM} {Q : Option Value → jmM → Prop} : AW d 139 74 [l0, l1, l2, l3, l4, l5, l6, l7] [v0] m Q ↔ AW d 139 76 [l0, l1, l2, l3, l4, l5, l6, l7] [.int 8, v0] m Q := A_bipush hB_X10_reasonsAgainst dX10_reasonsAgainst_74 rfl
theorem dX10_reasonsAgainst_76 : decode cX10_reasonsAgainst 76 = .ok (.goto 4, 3) := by decide +kernel
theorem tX10_reasonsAgainst_76 {d : Nat} {l0 l1 l2 l3 l4 l5 l6 l7 : Option Value} {v0 v1 : Value} {m : jmM} {Q : Option Value → jmM → Prop} : AW d 139 76 [l0, l1, l2, l3, l4, l5, l6, l7] [v0, v1] m Q ↔ AW d 139 80 [l0, l1, l2, l3, l4, l5, l6, l7] [v0, v1] m Q := A_goto hB_X10_reasonsAgainst dX10_reasonsAgainst_76 (by decide)
theorem dX10_reasonsAgainst_79 : decode cX10_reasonsAgainst 79 = .ok (.iconst 0, 1) := by decide +kernel
theorem tX10_reasonsAgainst_79 {d : Nat} {l0 l1 l2 l3 l4 l5 l6 l7 : Option Value} {v0 : Value} {m : jmM} {Q : Option Value → jmM → Prop} : AW d 139 79 [l0, l1, l2, l3, l4, l5, l6, l7] [v0] m Q ↔ AW d 139 80 [l0, l1, l2, l3, l4, l5, l6, l7] [.int 0, v0] m Q := A_iconst hB_X10_reasonsAgainst dX10_reasonsAgainst_79 (by decide)
theorem dX10_reasonsAgainst_80 : decode cX10_reasonsAgainst 80 = .ok (.iadd, 1) := by decide +kernel
theorem tX10_reasonsAgainst_80 {d : Nat} {l0 l1 l2 l3 l4 l5 l6 l7 : Option Value} {x y : Int32} {m : jmM} {Q : Option Value → jmM → Prop} : AW d 139 80 [l0, l1, l2, l3, l4, l5, l6, l7] [.int y, .int x] m Q ↔ AW d 139 81 [l0, l1, l2, l3, l4, l5, l6, l7] [.int (x + y)] m Q := A_iadd hB_X10_reasonsAgainst dX10_reasonsAgainst_80
theorem dX10_reasonsAgainst_81 : decode cX10_reasonsAgainst 81 = .ok (.istore 7, 2) := by decide +kernel
theorem tX10_reasonsAgainst_81 {d : Nat} {l0 l1 l2 l3 l4 l5 l6 l7 : Option Value} {x : Int32} {m : jmM} {Q : Option Value → jmM → Prop} : AW d 139 81 [l0, l1, l2, l3, l4, l5, l6, l7] [.int x] m Q ↔ AW d 139 83 [l0, l1, l2, l3, l4, l5, jc1 l6, some (.int x)] [] m Q := A_istore hB_X10_reasonsAgainst dX10_reasonsAgainst_81 (Nat.le_of_ble_eq_true rfl) rfl
theorem dX10_reasonsAgainst_83 : decode cX10_reasonsAgainst 83 = .ok (.iload 7, 2) := by decide +kernel
theorem tX10_reasonsAgainst_83 {d : Nat} {l0 l1 l2 l3 l4 l5 l6 : Option Value} {x : Int32} {m : jmM} {Q : Option Value → jmM → Prop} : AW d 139 83 [l0, l1, l2, l3, l4, l5, l6, some (.int x)] [] m Q ↔ AW d 139 85 [l0, l1, l2, l3, l4, l5, l6, some (.int x)] [.int x] m Q := A_iload hB_X10_reasonsAgainst dX10_reasonsAgainst_83 rfl
theorem dX10_reasonsAgainst_85 : decode cX10_reasonsAgainst 85 = .ok (.lload 5, 2) := by decide +kernel
theorem tX10_reasonsAgainst_85 {d : Nat} {l0 l1 l2 l3 l4 l6 l7 : Option Value} {v0 : Value} {x : Int64} {m : jmM} {Q : Option Value → jmM → Prop} : AW d 139 85 [l0, l1, l2, l3, l4, some (.long x), l6, l7] [v0] m Q ↔ AW d 139 87 [l0, l1, l2, l3, l4, some (.long x), l6, l7] [.long x, v0] m Q := A_lload hB_X10_reasonsAgainst dX10_reasonsAgainst_85 rfl
theorem dX10_reasonsAgainst_87 : decode cX10_reasonsAgainst 87 = .ok (.aload_n 0, 1) := by decide +kernel
theorem tX10_reasonsAgainst_87 {d : Nat} {l1 l2 l3 l4 l5 l6 l7 : Option Value} {v0 v1 : Value} {x : Nat} {m : jmM} {Q : Option Value → jmM → Prop} : AW d 139 87 [some (.ref x), l1, l2, l3, l4, l5, l6, l7] [v0, v1] m Q ↔ AW d 139 88 [some (.ref x), l1, l2, l3, l4, l5, l6, l7] [.ref x, v0, v1] m Q := A_aload_n hB_X10_reasonsAgainst dX10_reasonsAgainst_87 rfl
theorem dX10_reasonsAgainst_88 : decode cX10_reasonsAgainst 88 = .ok (.getfield 16, 3) := by decide +kernel
theorem tX10_reasonsAgainst_88 {d : Nat} {l0 l1 l2 l3 l4 l5 l6 l7 : Option Value} {v1 v2 : Value} {a : Nat} {m : jmM} {Q : Option Value → jmM → Prop} : AW d 139 88 [l0, l1, l2, l3, l4, l5, l6, l7] [.ref a, v1, v2] m Q ↔ (mS m a).1 = 10 ∧ AW d 139 91 [l0, l1, l2, l3, l4, l5, l6, l7] [.int (mI m a 2), v1, v2] m Q := A_getfield (f := fun m a => .int (mI m a 2)) hB_X10_reasonsAgainst dX10_reasonsAgainst_88 hO_X10_reasonsAgainst fF_10_16 rfl
theorem dX10_reasonsAgainst_91 : decode cX10_reasonsAgainst 91 = .ok (.i2l, 1) := by decide +kernel
theorem tX10_reasonsAgainst_91 {d : Nat} {l0 l1 l2 l3 l4 l5 l6 l7 : Option Value} {v1 v2 : Value} {x : Int32} {m : jmM} {Q : Option Value → jmM → Prop} : AW d 139 91 [l0, l1, l2, l3, l4, l5, l6, l7] [.int x, v1, v2] m Q ↔ AW d 139 92 [l0, l1, l2, l3, l4, l5, l6, l7] [.long x.toInt64, v1, v2] m Q := A_i2l hB_X10_reasonsAgainst dX10_reasonsAgainst_91
theorem dX10_reasonsAgainst_92 : decode cX10_reasonsAgainst 92 = .ok (.lcmp, 1) := by decide +kernel
theorem tX10_reasonsAgainst_92 {d : Nat} {l0 l1 l2 l3 l4 l5 l6 l7 : Option Value} {v2 : Value} {x y : Int64} {m : jmM} {Q : Option Value → jmM → Prop} : AW d 139 92 [l0, l1, l2, l3, l4, l5, l6, l7] [.long y, .long x, v2] m Q ↔ AW d 139 93 [l0, l1, l2, l3, l4, l5, l6, l7] [.int (lg_cmp x y), v2] m Q := A_lcmp hB_X10_reasonsAgainst dX10_reasonsAgainst_92
theorem dX10_reasonsAgainst_93 : decode cX10_reasonsAgainst 93 = .ok (.ifCond .le 8, 3) := by decide +kernel
theorem tX10_reasonsAgainst_93 {d : Nat} {l0 l1 l2 l3 l4 l5 l6 l7 : Option Value} {v1 : Value} {x : Int32} {m : jmM} {Q : Option Value → jmM → Prop} : AW d 139 93 [l0, l1, l2, l3, l4, l5, l6, l7] [.int x, v1] m Q ↔ if x ≤ 0 then AW d 139 101 [l0, l1, l2, l3, l4, l5, l6, l7] [v1] m Q else AW d 139 96 [l0, l1, l2, l3, l4, l5, l6, l7] [v1] m Q := A_if_le hB_X10_reasonsAgainst dX10_reasonsAgainst_93 (by decide)
theorem dX10_reasonsAgainst_96 : decode cX10_reasonsAgainst 96 = .ok (.bipush 16, 2) := by decide +kernel
theorem tX10_reasonsAgainst_96 {d : Nat} {l0 l1 l2 l3 l4 l5 l6 l7 : Option Value} {v0 : Value} {m : jmM} {Q : Option Value → jmM → Prop} : AW d 139 96 [l0, l1, l2, l3, l4, l5, l6, l7] [v0] m Q ↔ AW d 139 98 [l0, l1, l2, l3, l4, l5, l6, l7] [.int 16, v0] m Q := A_bipush hB_X10_reasonsAgainst dX10_reasonsAgainst_96 rfl
theorem dX10_reasonsAgainst_98 : decode cX10_reasonsAgainst 98 = .ok (.goto 4, 3) := by decide +kernel
theorem tX10_reasonsAgainst_98 {d : Nat} {l0 l1 l2 l3 l4 l5 l6 l7 : Option Value} {v0 v1 : Value} {m : jmM} {Q : Option Value → jmM → Prop} : AW d 139 98 [l0, l1, l2, l3, l4, l5, l6, l7] [v0, v1] m Q ↔ AW d 139 102 [l0, l1, l2, l3, l4, l5, l6, l7] [v0, v1] m Q := A_goto hB_X10_reasonsAgainst dX10_reasonsAgainst_98 (by decide)
theorem dX10_reasonsAgainst_101 : decode cX10_reasonsAgainst 101 = .ok (.iconst 0, 1) := by decide +kernel
theorem tX10_reasonsAgainst_101 {d : Nat} {l0 l1 l2 l3 l4 l5 l6 l7 : Option Value} {v0 : Value} {m : jmM} {Q : Option Value → jmM → Prop} : AW d 139 101 [l0, l1, l2, l3, l4, l5, l6, l7] [v0] m Q ↔ AW d 139 102 [l0, l1, l2, l3, l4, l5, l6, l7] [.int 0, v0] m Q := A_iconst hB_X10_reasonsAgainst dX10_reasonsAgainst_101 (by decide)
theorem dX10_reasonsAgainst_102 : decode cX10_reasonsAgainst 102 = .ok (.iadd, 1) := by decide +kernel
theorem tX10_reasonsAgainst_102 {d : Nat} {l0 l1 l2 l3 l4 l5 l6 l7 : Option Value} {x y : Int32} {m : jmM} {Q : Option Value → jmM → Prop} : AW d 139 102 [l0, l1, l2, l3, l4, l5, l6, l7] [.int y, .int x] m Q ↔ AW d 139 103 [l0, l1, l2, l3, l4, l5, l6, l7] [.int (x + y)] m Q := A_iadd hB_X10_reasonsAgainst dX10_reasonsAgainst_102
theorem dX10_reasonsAgainst_103 : decode cX10_reasonsAgainst 103 = .ok (.istore 7, 2) := by decide +kernel
theorem tX10_reasonsAgainst_103 {d : Nat} {l0 l1 l2 l3 l4 l5 l6 l7 : Option Value} {x : Int32} {m : jmM} {Q : Option Value → jmM → Prop} : AW d 139 103 [l0, l1, l2, l3, l4, l5, l6, l7] [.int x] m Q ↔ AW d 139 105 [l0, l1, l2, l3, l4, l5, jc1 l6, some (.int x)] [] m Q := A_istore hB_X10_reasonsAgainst dX10_reasonsAgainst_103 (Nat.le_of_ble_eq_true rfl) rfl
theorem dX10_reasonsAgainst_105 : decode cX10_reasonsAgainst 105 = .ok (.iload 7, 2) := by decide +kernel
theorem tX10_reasonsAgainst_105 {d : Nat} {l0 l1 l2 l3 l4 l5 l6 : Option Value} {x : Int32} {m : jmM} {Q : Option Value → jmM → Prop} : AW d 139 105 [l0, l1, l2, l3, l4, l5, l6, some (.int x)] [] m Q ↔ AW d 139 107 [l0, l1, l2, l3, l4, l5, l6, some (.int x)] [.int x] m Q := A_iload hB_X10_reasonsAgainst dX10_reasonsAgainst_105 rfl
theorem dX10_reasonsAgainst_107 : decode cX10_reasonsAgainst 107 = .ok (.ireturn, 1) := by decide +kernel
theorem tX10_reasonsAgainst_107 {d : Nat} {l0 l1 l2 l3 l4 l5 l6 l7 : Option Value} {x : Int32} {m : jmM} {Q : Option Value → jmM → Prop} : AW d 139 107 [l0, l1, l2, l3, l4, l5, l6, l7] [.int x] m Q ↔ Q (some (.int x)) m := A_ireturn hB_X10_reasonsAgainst dX10_reasonsAgainst_107 hR_X10_reasonsAgainst
