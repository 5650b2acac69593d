/-! steps of PulledCrystal$Start, by program -/
theorem hB_X8_init : jB 118 = cX8_init := rfl
theorem hO_X8_init : jO 118 = 8 := rfl
theorem hR_X8_init : jRt 118 = none := rfl
theorem nX8_init (d : Nat) (x0 : Nat) (m : jmM) (Q : Option Value → jmM → Prop) : CC (d + 1) 118 [.ref x0] m Q ↔ AW d 118 0 [some (.ref x0)] [] m Q := CC_body (Nat.le_of_ble_eq_true rfl)
theorem dX8_init_0 : decode cX8_init 0 = .ok (.aload_n 0, 1) := by decide +kernel
theorem tX8_init_0 {d : Nat} {x : Nat} {m : jmM} {Q : Option Value → jmM → Prop} : AW d 118 0 [some (.ref x)] [] m Q ↔ AW d 118 1 [some (.ref x)] [.ref x] m Q := A_aload_n hB_X8_init dX8_init_0 rfl
theorem dX8_init_1 : decode cX8_init 1 = .ok (.invokespecial 3, 3) := by decide +kernel
theorem tX8_init_1 {d : Nat} {l0 : Option Value} {a : Nat} {m : jmM} {Q : Option Value → jmM → Prop} : AW d 118 1 [l0] [.ref a] m Q ↔ AW d 118 4 [l0] [] m Q := A_obj hB_X8_init dX8_init_1 hO_X8_init fS_8_3 (Nat.le_of_ble_eq_true rfl)
theorem dX8_init_4 : decode cX8_init 4 = .ok (.aload_n 0, 1) := by decide +kernel
theorem tX8_init_4 {d : Nat} {x : Nat} {m : jmM} {Q : Option Value → jmM → Prop} : AW d 118 4 [some (.ref x)] [] m Q ↔ AW d 118 5 [some (.ref x)] [.ref x] m Q := A_aload_n hB_X8_init dX8_init_4 rfl
theorem dX8_init_5 : decode cX8_init 5 = .ok (.iconst 0, 1) := by decide +kernel
theorem tX8_init_5 {d : Nat} {l0 : Option Value} {v0 : Value} {m : jmM} {Q : Option Value → jmM → Prop} : AW d 118 5 [l0] [v0] m Q ↔ AW d 118 6 [l0] [.int 0, v0] m Q := A_iconst hB_X8_init dX8_init_5 (by decide)
theorem dX8_init_6 : decode cX8_init 6 = .ok (.putfield 9, 3) := by decide +kernel
theorem tX8_init_6 {d : Nat} {l0 : Option Value} {x : Int32} {a : Nat} {m : jmM} {Q : Option Value → jmM → Prop} : AW d 118 6 [l0] [.int x, .ref a] m Q ↔ (mS m a).1 = 8 ∧ AW d 118 9 [l0] [] (cI m a (jup (mI m a) 0 x)) Q := A_putI hB_X8_init dX8_init_6 hO_X8_init fF_8_9 rfl (fun h => Bool.noConfusion h)
theorem dX8_init_9 : decode cX8_init 9 = .ok (.aload_n 0, 1) := by decide +kernel
theorem tX8_init_9 {d : Nat} {x : Nat} {m : jmM} {Q : Option Value → jmM → Prop} : AW d 118 9 [some (.ref x)] [] m Q ↔ AW d 118 10 [some (.ref x)] [.ref x] m Q := A_aload_n hB_X8_init dX8_init_9 rfl
theorem dX8_init_10 : decode cX8_init 10 = .ok (.iconst 0, 1) := by decide +kernel
theorem tX8_init_10 {d : Nat} {l0 : Option Value} {v0 : Value} {m : jmM} {Q : Option Value → jmM → Prop} : AW d 118 10 [l0] [v0] m Q ↔ AW d 118 11 [l0] [.int 0, v0] m Q := A_iconst hB_X8_init dX8_init_10 (by decide)
theorem dX8_init_11 : decode cX8_init 11 = .ok (.putfield 15, 3) := by decide +kernel
theorem tX8_init_11 {d : Nat} {l0 : Option Value} {x : Int32} {a : Nat} {m : jmM} {Q : Option Value → jmM → Prop} : AW d 118 11 [l0] [.int x, .ref a] m Q ↔ (mS m a).1 = 8 ∧ AW d 118 14 [l0] [] (cI m a (jup (mI m a) 1 x)) Q := A_putI hB_X8_init dX8_init_11 hO_X8_init fF_8_15 rfl (fun h => Bool.noConfusion h)
theorem dX8_init_14 : decode cX8_init 14 = .ok (.aload_n 0, 1) := by decide +kernel
theorem tX8_init_14 {d : Nat} {x : Nat} {m : jmM} {Q : Option Value → jmM → Prop} : AW d 118 14 [some (.ref x)] [] m Q ↔ AW d 118 15 [some (.ref x)] [.ref x] m Q := A_aload_n hB_X8_init dX8_init_14 rfl
theorem dX8_init_15 : decode cX8_init 15 = .ok (.iconst 0, 1) := by decide +kernel
theorem tX8_init_15 {d : Nat} {l0 : Option Value} {v0 : Value} {m : jmM} {Q : Option Value → jmM → Prop} : AW d 118 15 [l0] [v0] m Q ↔ AW d 118 16 [l0] [.int 0, v0] m Q := A_iconst hB_X8_init dX8_init_15 (by decide)
theorem dX8_init_16 : decode cX8_init 16 = .ok (.putfield 18, 3) := by decide +kernel
theorem tX8_init_16 {d : Nat} {l0 : Option Value} {x : Int32} {a : Nat} {m : jmM} {Q : Option Value → jmM → Prop} : AW d 118 16 [l0] [.int x, .ref a] m Q ↔ (mS m a).1 = 8 ∧ AW d 118 19 [l0] [] (cI m a (jup (mI m a) 2 x)) Q := A_putI hB_X8_init dX8_init_16 hO_X8_init fF_8_18 rfl (fun h => Bool.noConfusion h)
theorem dX8_init_19 : decode cX8_init 19 = .ok (.aload_n 0, 1) := by decide +kernel
theorem tX8_init_19 {d : Nat} {x : Nat} {m : jmM} {Q : Option Value → jmM → Prop} : AW d 118 19 [some (.ref x)] [] m Q ↔ AW d 118 20 [some (.ref x)] [.ref x] m Q := A_aload_n hB_X8_init dX8_init_19 rfl
theorem dX8_init_20 : decode cX8_init 20 = .ok (.iconst 0, 1) := by decide +kernel
theorem tX8_init_20 {d : Nat} {l0 : Option Value} {v0 : Value} {m : jmM} {Q : Option Value → jmM → Prop} : AW d 118 20 [l0] [v0] m Q ↔ AW d 118 21 [l0] [.int 0, v0] m Q := A_iconst hB_X8_init dX8_init_20 (by decide)
theorem dX8_init_21 : decode cX8_init 21 = .ok (.putfield 21, 3) := by decide +kernel
theorem tX8_init_21 {d : Nat} {l0 : Option Value} {x : Int32} {a : Nat} {m : jmM} {Q : Option Value → jmM → Prop} : AW d 118 21 [l0] [.int x, .ref a] m Q ↔ (mS m a).1 = 8 ∧ AW d 118 24 [l0] [] (cI m a (jup (mI m a) 3 x)) Q := A_putI hB_X8_init dX8_init_21 hO_X8_init fF_8_21 rfl (fun h => Bool.noConfusion h)
theorem dX8_init_24 : decode cX8_init 24 = .ok (.aload_n 0, 1) := by decide +kernel
theorem tX8_init_24 {d : Nat} {x : Nat} {m : jmM} {Q : Option Value → jmM → Prop} : AW d 118 24 [some (.ref x)] [] m Q ↔ AW d 118 25 [some (.ref x)] [.ref x] m Q := A_aload_n hB_X8_init dX8_init_24 rfl
theorem dX8_init_25 : decode cX8_init 25 = .ok (.iconst 0, 1) := by decide +kernel
theorem tX8_init_25 {d : Nat} {l0 : Option Value} {v0 : Value} {m : jmM} {Q : Option Value → jmM → Prop} : AW d 118 25 [l0] [v0] m Q ↔ AW d 118 26 [l0] [.int 0, v0] m Q := A_iconst hB_X8_init dX8_init_25 (by decide)
theorem dX8_init_26 : decode cX8_init 26 = .ok (.putfield 24, 3) := by decide +kernel
theorem tX8_init_26 {d : Nat} {l0 : Option Value} {x : Int32} {a : Nat} {m : jmM} {Q : Option Value → jmM → Prop} : AW d 118 26 [l0] [.int x, .ref a] m Q ↔ (mS m a).1 = 8 ∧ AW d 118 29 [l0] [] (cI m a (jup (mI m a) 4 x)) Q := A_putI hB_X8_init dX8_init_26 hO_X8_init fF_8_24 rfl (fun h => Bool.noConfusion h)
theorem dX8_init_29 : decode cX8_init 29 = .ok (.aload_n 0, 1) := by decide +kernel
theorem tX8_init_29 {d : Nat} {x : Nat} {m : jmM} {Q : Option Value → jmM → Prop} : AW d 118 29 [some (.ref x)] [] m Q ↔ AW d 118 30 [some (.ref x)] [.ref x] m Q := A_aload_n hB_X8_init dX8_init_29 rfl
theorem dX8_init_30 : decode cX8_init 30 = .ok (.iconst 0, 1) := by decide +kernel
theorem tX8_init_30 {d : Nat} {l0 : Option Value} {v0 : Value} {m : jmM} {Q : Option Value → jmM → Prop} : AW d 118 30 [l0] [v0] m Q ↔ AW d 118 31 [l0] [.int 0, v0] m Q := A_iconst hB_X8_init dX8_init_30 (by decide)
theorem dX8_init_31 : decode cX8_init 31 = .ok (.putfield 27, 3) := by decide +kernel
theorem tX8_init_31 {d : Nat} {l0 : Option Value} {x : Int32} {a : Nat} {m : jmM} {Q : Option Value → jmM → Prop} : AW d 118 31 [l0] [.int x, .ref a] m Q ↔ (mS m a).1 = 8 ∧ AW d 118 34 [l0] [] (cI m a (jup (mI m a) 5 x)) Q := A_putI hB_X8_init dX8_init_31 hO_X8_init fF_8_27 rfl (fun h => Bool.noConfusion h)
theorem dX8_init_34 : decode cX8_init 34 = .ok (.aload_n 0, 1) := by decide +kernel
theorem tX8_init_34 {d : Nat} {x : Nat} {m : jmM} {Q : Option Value → jmM → Prop} : AW d 118 34 [some (.ref x)] [] m Q ↔ AW d 118 35 [some (.ref x)] [.ref x] m Q := A_aload_n hB_X8_init dX8_init_34 rfl
theorem dX8_init_35 : decode cX8_init 35 = .ok (.bipush 6, 2) := by decide +kernel
theorem tX8_init_35 {d : Nat} {l0 : Option Value} {v0 : Value} {m : jmM} {Q : Option Value → jmM → Prop} : AW d 118 35 [l0] [v0] m Q ↔ AW d 118 37 [l0] [.int 6, v0] m Q := A_bipush hB_X8_init dX8_init_35 rfl
theorem dX8_init_37 : decode cX8_init 37 = .ok (.newarray .int, 2) := by decide +kernel
theorem tX8_init_37 {d : Nat} {l0 : Option Value} {v1 : Value} {x : Int32} {m : jmM} {Q : Option Value → jmM → Prop} : AW d 118 37 [l0] [.int x, v1] m Q ↔ (0 ≤ x.toInt ∧ x.toInt ≤ 100000) ∧ AW d 118 39 [l0] [.ref (mN m), v1] (jNew m 20 (jx x)) Q := A_newarray hB_X8_init dX8_init_37 rfl
theorem dX8_init_39 : decode cX8_init 39 = .ok (.putfield 30, 3) := by decide +kernel
theorem tX8_init_39 {d : Nat} {l0 : Option Value} {x a : Nat} {m : jmM} {Q : Option Value → jmM → Prop} : AW d 118 39 [l0] [.ref x, .ref a] m Q ↔ (mS m a).1 = 8 ∧ AW d 118 42 [l0] [] (cR m a (jup (mR m a) 6 (some x))) Q := A_putR hB_X8_init dX8_init_39 hO_X8_init fF_8_30 rfl (fun _ => ⟨rfl, rfl⟩)
theorem tX8_init_39q {d : Nat} {l0 : Option Value} {x : Option Nat} {a : Nat} {m : jmM} {Q : Option Value → jmM → Prop} : AW d 118 39 [l0] [va_rf x, .ref a] m Q ↔ (mS m a).1 = 8 ∧ AW d 118 42 [l0] [] (cR m a (jup (mR m a) 6 x)) Q := A_putQ hB_X8_init dX8_init_39 hO_X8_init fF_8_30 rfl (fun _ => ⟨rfl, rfl⟩)
theorem tX8_init_39n {d : Nat} {l0 : Option Value} {a : Nat} {m : jmM} {Q : Option Value → jmM → Prop} : AW d 118 39 [l0] [.null, .ref a] m Q ↔ (mS m a).1 = 8 ∧ AW d 118 42 [l0] [] (cR m a (jup (mR m a) 6 none)) Q := A_putQ (x := none) hB_X8_init dX8_init_39 hO_X8_init fF_8_30 rfl (fun _ => ⟨rfl, rfl⟩)
theorem dX8_init_42 : decode cX8_init 42 = .ok (.aload_n 0, 1) := by decide +kernel
theorem tX8_init_42 {d : Nat} {x : Nat} {m : jmM} {Q : Option Value → jmM → Prop} : AW d 118 42 [some (.ref x)] [] m Q ↔ AW d 118 43 [some (.ref x)] [.ref x] m Q := A_aload_n hB_X8_init dX8_init_42 rfl
theorem dX8_init_43 : decode cX8_init 43 = .ok (.bipush 6, 2) := by decide +kernel
theorem tX8_init_43 {d : Nat} {l0 : Option Value} {v0 : Value} {m : jmM} {Q : Option Value → jmM → Prop} : AW d 118 43 [l0] [v0] m Q ↔ AW d 118 45 [l0] [.int 6, v0] m Q := A_bipush hB_X8_init dX8_init_43 rfl
theorem dX8_init_45 : decode cX8_init 45 = .ok (.newarray .int, 2) := by decide +kernel
theorem tX8_init_45 {d : Nat} {l0 : Option Value} {v1 : Value} {x : Int32} {m : jmM} {Q : Option Value → jmM → Prop} : AW d 118 45 [l0] [.int x, v1] m Q ↔ (0 ≤ x.toInt ∧ x.toInt ≤ 100000) ∧ AW d 118 47 [l0] [.ref (mN m), v1] (jNew m 20 (jx x)) Q := A_newarray hB_X8_init dX8_init_45 rfl
theorem dX8_init_47 : decode cX8_init 47 = .ok (.putfield 34, 3) := by decide +kernel
theorem tX8_init_47 {d : Nat} {l0 : Option Value} {x a : Nat} {m : jmM} {Q : Option Value → jmM → Prop} : AW d 118 47 [l0] [.ref x, .ref a] m Q ↔ (mS m a).1 = 8 ∧ AW d 118 50 [l0] [] (cR m a (jup (mR m a) 7 (some x))) Q := A_putR hB_X8_init dX8_init_47 hO_X8_init fF_8_34 rfl (fun _ => ⟨rfl, rfl⟩)
theorem tX8_init_47q {d : Nat} {l0 : Option Value} {x : Option Nat} {a : Nat} {m : jmM} {Q : Option Value → jmM → Prop} : AW d 118 47 [l0] [va_rf x, .ref a] m Q ↔ (mS m a).1 = 8 ∧ AW d 118 50 [l0] [] (cR m a (jup (mR m a) 7 x)) Q := A_putQ hB_X8_init dX8_init_47 hO_X8_init fF_8_34 rfl (fun _ => ⟨rfl, rfl⟩)
theorem tX8_init_47n {d : Nat} {l0 : Option Value} {a : Nat} {m : jmM} {Q : Option Value → jmM → Prop} : AW d 118 47 [l0] [.null, .ref a] m Q ↔ (mS m a).1 = 8 ∧ AW d 118 50 [l0] [] (cR m a (jup (mR m a) 7 none)) Q := A_putQ (x := none) hB_X8_init dX8_init_47 hO_X8_init fF_8_34 rfl (fun _ => ⟨rfl, rfl⟩)
theorem dX8_init_50 : decode cX8_init 50 = .ok (.return_, 1) := by decide +kernel
theorem tX8_init_50 {d : Nat} {l0 : Option Value} {m : jmM} {Q : Option Value → jmM → Prop} : AW d 118 50 [l0] [] m Q ↔ Q none m := A_return hB_X8_init dX8_init_50 hR_X8_init
theorem hB_X8_tell : jB 119 = cX8_tell := rfl
theorem hO_X8_tell : jO 119 = 8 := rfl
theorem hR_X8_tell : jRt 119 = none := rfl
theorem nX8_tell (d : Nat) (x0 : Nat) (x1 : Int32) (x2 : Int32) (x3 : Int32) (x4 : Int32) (x5 : Int32) (x6 : Int32) (m : jmM) (Q : Option Value → jmM → Prop) : CC (d + 1) 119 [.ref x0, .int x1, .int x2, .int x3, .int x4, .int x5, .int x6] m Q ↔ AW d 119 0 [some (.ref x0), some (.int x1), some (.int x2), some (.int x3), some (.int x4), some (.int x5), some (.int x6)] [] m Q := CC_body (Nat.le_of_ble_eq_true rfl)
theorem dX8_tell_0 : decode cX8_tell 0 = .ok (.aload_n 0, 1) := by decide +kernel
theorem tX8_tell_0 {d : Nat} {l1 l2 l3 l4 l5 l6 : Option Value} {x : Nat} {m : jmM} {Q : Option Value → jmM → Prop} : AW d 119 0 [some (.ref x), l1, l2, l3, l4, l5, l6] [] m Q ↔ AW d 119 1 [some (.ref x), l1, l2, l3, l4, l5, l6] [.ref x] m Q := A_aload_n hB_X8_tell dX8_tell_0 rfl
theorem dX8_tell_1 : decode cX8_tell 1 = .ok (.iload_n 1, 1) := by decide +kernel
theorem tX8_tell_1 {d : Nat} {l0 l2 l3 l4 l5 l6 : Option Value} {v0 : Value} {x : Int32} {m : jmM} {Q : Option Value → jmM → Prop} : AW d 119 1 [l0, some (.int x), l2, l3, l4, l5, l6] [v0] m Q ↔ AW d 119 2 [l0, some (.int x), l2, l3, l4, l5, l6] [.int x, v0] m Q := A_iload_n hB_X8_tell dX8_tell_1 rfl
theorem dX8_tell_2 : decode cX8_tell 2 = .ok (.putfield 9, 3) := by decide +kernel
theorem tX8_tell_2 {d : Nat} {l0 l1 l2 l3 l4 l5 l6 : Option Value} {x : Int32} {a : Nat} {m : jmM} {Q : Option Value → jmM → Prop} : AW d 119 2 [l0, l1, l2, l3, l4, l5, l6] [.int x, .ref a] m Q ↔ (mS m a).1 = 8 ∧ AW d 119 5 [l0, l1, l2, l3, l4, l5, l6] [] (cI m a (jup (mI m a) 0 x)) Q := A_putI hB_X8_tell dX8_tell_2 hO_X8_tell fF_8_9 rfl (fun h => Bool.noConfusion h)
theorem dX8_tell_5 : decode cX8_tell 5 = .ok (.aload_n 0, 1) := by decide +kernel
theorem tX8_tell_5 {d : Nat} {l1 l2 l3 l4 l5 l6 : Option Value} {x : Nat} {m : jmM} {Q : Option Value → jmM → Prop} : AW d 119 5 [some (.ref x), l1, l2, l3, l4, l5, l6] [] m Q ↔ AW d 119 6 [some (.ref x), l1, l2, l3, l4, l5, l6] [.ref x] m Q := A_aload_n hB_X8_tell dX8_tell_5 rfl
theorem dX8_tell_6 : decode cX8_tell 6 = .ok (.iload_n 2, 1) := by decide +kernel
theorem tX8_tell_6 {d : Nat} {l0 l1 l3 l4 l5 l6 : Option Value} {v0 : Value} {x : Int32} {m : jmM} {Q : Option Value → jmM → Prop} : AW d 119 6 [l0, l1, some (.int x), l3, l4, l5, l6] [v0] m Q ↔ AW d 119 7 [l0, l1, some (.int x), l3, l4, l5, l6] [.int x, v0] m Q := A_iload_n hB_X8_tell dX8_tell_6 rfl
theorem dX8_tell_7 : decode cX8_tell 7 = .ok (.putfield 15, 3) := by decide +kernel
theorem tX8_tell_7 {d : Nat} {l0 l1 l2 l3 l4 l5 l6 : Option Value} {x : Int32} {a : Nat} {m : jmM} {Q : Option Value → jmM → Prop} : AW d 119 7 [l0, l1, l2, l3, l4, l5, l6] [.int x, .ref a] m Q ↔ (mS m a).1 = 8 ∧ AW d 119 10 [l0, l1, l2, l3, l4, l5, l6] [] (cI m a (jup (mI m a) 1 x)) Q := A_putI hB_X8_tell dX8_tell_7 hO_X8_tell fF_8_15 rfl (fun h => Bool.noConfusion h)
theorem dX8_tell_10 : decode cX8_tell 10 = .ok (.aload_n 0, 1) := by decide +kernel
theorem tX8_tell_10 {d : Nat} {l1 l2 l3 l4 l5 l6 : Option Value} {x : Nat} {m : jmM} {Q : Option Value → jmM → Prop} : AW d 119 10 [some (.ref x), l1, l2, l3, l4, l5, l6] [] m Q ↔ AW d 119 11 [some (.ref x), l1, l2, l3, l4, l5, l6] [.ref x] m Q := A_aload_n hB_X8_tell dX8_tell_10 rfl
theorem dX8_tell_11 : decode cX8_tell 11 = .ok (.iload_n 3, 1) := by decide +kernel
theorem tX8_tell_11 {d : Nat} {l0 l1 l2 l4 l5 l6 : Option Value} {v0 : Value} {x : Int32} {m : jmM} {Q : Option Value → jmM → Prop} : AW d 119 11 [l0, l1, l2, some (.int x), l4, l5, l6] [v0] m Q ↔ AW d 119 12 [l0, l1, l2, some (.int x), l4, l5, l6] [.int x, v0] m Q := A_iload_n hB_X8_tell dX8_tell_11 rfl
theorem dX8_tell_12 : decode cX8_tell 12 = .ok (.putfield 18, 3) := by decide +kernel
theorem tX8_tell_12 {d : Nat} {l0 l1 l2 l3 l4 l5 l6 : Option Value} {x : Int32} {a : Nat} {m : jmM} {Q : Option Value → jmM → Prop} : AW d 119 12 [l0, l1, l2, l3, l4, l5, l6] [.int x, .ref a] m Q ↔ (mS m a).1 = 8 ∧ AW d 119 15 [l0, l1, l2, l3, l4, l5, l6] [] (cI m a (jup (mI m a) 2 x)) Q := A_putI hB_X8_tell dX8_tell_12 hO_X8_tell fF_8_18 rfl (fun h => Bool.noConfusion h)
theorem dX8_tell_15 : decode cX8_tell 15 = .ok (.aload_n 0, 1) := by decide +kernel
theorem tX8_tell_15 {d : Nat} {l1 l2 l3 l4 l5 l6 : Option Value} {x : Nat} {m : jmM} {Q : Option Value → jmM → Prop} : AW d 119 15 [some (.ref x), l1, l2, l3, l4, l5, l6] [] m Q ↔ AW d 119 16 [some (.ref x), l1, l2, l3, l4, l5, l6] [.ref x] m Q := A_aload_n hB_X8_tell dX8_tell_15 rfl
theorem dX8_tell_16 : decode cX8_tell 16 = .ok (.iload 4, 2) := by decide +kernel
theorem tX8_tell_16 {d : Nat} {l0 l1 l2 l3 l5 l6 : Option Value} {v0 : Value} {x : Int32} {m : jmM} {Q : Option Value → jmM → Prop} : AW d 119 16 [l0, l1, l2, l3, some (.int x), l5, l6] [v0] m Q ↔ AW d 119 18 [l0, l1, l2, l3, some (.int x), l5, l6] [.int x, v0] m Q := A_iload hB_X8_tell dX8_tell_16 rfl
theorem dX8_tell_18 : decode cX8_tell 18 = .ok (.putfield 21, 3) := by decide +kernel
theorem tX8_tell_18 {d : Nat} {l0 l1 l2 l3 l4 l5 l6 : Option Value} {x : Int32} {a : Nat} {m : jmM} {Q : Option Value → jmM → Prop} : AW d 119 18 [l0, l1, l2, l3, l4, l5, l6] [.int x, .ref a] m Q ↔ (mS m a).1 = 8 ∧ AW d 119 21 [l0, l1, l2, l3, l4, l5, l6] [] (cI m a (jup (mI m a) 3 x)) Q := A_putI hB_X8_tell dX8_tell_18 hO_X8_tell fF_8_21 rfl (fun h => Bool.noConfusion h)
theorem dX8_tell_21 : decode cX8_tell 21 = .ok (.aload_n 0, 1) := by decide +kernel
theorem tX8_tell_21 {d : Nat} {l1 l2 l3 l4 l5 l6 : Option Value} {x : Nat} {m : jmM} {Q : Option Value → jmM → Prop} : AW d 119 21 [some (.ref x), l1, l2, l3, l4, l5, l6] [] m Q ↔ AW d 119 22 [some (.ref x), l1, l2, l3, l4, l5, l6] [.ref x] m Q := A_aload_n hB_X8_tell dX8_tell_21 rfl
theorem dX8_tell_22 : decode cX8_tell 22 = .ok (.iload 5, 2) := by decide +kernel
theorem tX8_tell_22 {d : Nat} {l0 l1 l2 l3 l4 l6 : Option Value} {v0 : Value} {x : Int32} {m : jmM} {Q : Option Value → jmM → Prop} : AW d 119 22 [l0, l1, l2, l3, l4, some (.int x), l6] [v0] m Q ↔ AW d 119 24 [l0, l1, l2, l3, l4, some (.int x), l6] [.int x, v0] m Q := A_iload hB_X8_tell dX8_tell_22 rfl
theorem dX8_tell_24 : decode cX8_tell 24 = .ok (.putfield 24, 3) := by decide +kernel
theorem tX8_tell_24 {d : Nat} {l0 l1 l2 l3 l4 l5 l6 : Option Value} {x : Int32} {a : Nat} {m : jmM} {Q : Option Value → jmM → Prop} : AW d 119 24 [l0, l1, l2, l3, l4, l5, l6] [.int x, .ref a] m Q ↔ (mS m a).1 = 8 ∧ AW d 119 27 [l0, l1, l2, l3, l4, l5, l6] [] (cI m a (jup (mI m a) 4 x)) Q := A_putI hB_X8_tell dX8_tell_24 hO_X8_tell fF_8_24 rfl (fun h => Bool.noConfusion h)
theorem dX8_tell_27 : decode cX8_tell 27 = .ok (.aload_n 0, 1) := by decide +kernel
theorem tX8_tell_27 {d : Nat} {l1 l2 l3 l4 l5 l6 : Option Value} {x : Nat} {m : jmM} {Q : Option Value → jmM → Prop} : AW d 119 27 [some (.ref x), l1, l2, l3, l4, l5, l6] [] m Q ↔ AW d 119 28 [some (.ref x), l1, l2, l3, l4, l5, l6] [.ref x] m Q := A_aload_n hB_X8_tell dX8_tell_27 rfl
theorem dX8_tell_28 : decode cX8_tell 28 = .ok (.iload 6, 2) := by decide +kernel
theorem tX8_tell_28 {d : Nat} {l0 l1 l2 l3 l4 l5 : Option Value} {v0 : Value} {x : Int32} {m : jmM} {Q : Option Value → jmM → Prop} : AW d 119 28 [l0, l1, l2, l3, l4, l5, some (.int x)] [v0] m Q ↔ AW d 119 30 [l0, l1, l2, l3, l4, l5, some (.int x)] [.int x, v0] m Q := A_iload hB_X8_tell dX8_tell_28 rfl
theorem dX8_tell_30 : decode cX8_tell 30 = .ok (.putfield 27, 3) := by decide +kernel
theorem tX8_tell_30 {d : Nat} {l0 l1 l2 l3 l4 l5 l6 : Option Value} {x : Int32} {a : Nat} {m : jmM} {Q : Option Value → jmM → Prop} : AW d 119 30 [l0, l1, l2, l3, l4, l5, l6] [.int x, .ref a] m Q ↔ (mS m a).1 = 8 ∧ AW d 119 33 [l0, l1, l2, l3, l4, l5, l6] [] (cI m a (jup (mI m a) 5 x)) Q := A_putI hB_X8_tell dX8_tell_30 hO_X8_tell fF_8_27 rfl (fun h => Bool.noConfusion h)
theorem dX8_tell_33 : decode cX8_tell 33 = .ok (.return_, 1) := by decide +kernel
theorem tX8_tell_33 {d : Nat} {l0 l1 l2 l3 l4 l5 l6 : Option Value} {m : jmM} {Q : Option Value → jmM → Prop} : AW d 119 33 [l0, l1, l2, l3, l4, l5, l6] [] m Q ↔ Q none m := A_return hB_X8_tell dX8_tell_33 hR_X8_tell
theorem hB_X8_tellStuffs : jB 120 = cX8_tellStuffs := rfl
theorem hO_X8_tellStuffs : jO 120 = 8 := rfl
theorem hR_X8_tellStuffs : jRt 120 = none := rfl
theorem nX8_tellStuffs (d : Nat) (x0 : Nat) (x1 : Nat) (x2 : Nat) (m : jmM) (Q : Option Value → jmM → Prop) : CC (d + 1) 120 [.ref x0, .ref x1, .ref x2] m Q ↔ AW d 120 0 [some (.ref x0), some (.ref x1), some (.ref x2), none] [] m Q := CC_body (Nat.le_of_ble_eq_true rfl)
theorem dX8_tellStuffs_0 : decode cX8_tellStuffs 0 = .ok (.iconst 0, 1) := by decide +kernel
theorem tX8_tellStuffs_0 {d : Nat} {l0 l1 l2 l3 : Option Value} {m : jmM} {Q : Option Value → jmM → Prop} : AW d 120 0 [l0, l1, l2, l3] [] m Q ↔ AW d 120 1 [l0, l1, l2, l3] [.int 0] m Q := A_iconst hB_X8_tellStuffs dX8_tellStuffs_0 (by decide)
theorem dX8_tellStuffs_1 : decode cX8_tellStuffs 1 = .ok (.istore_n 3, 1) := by decide +kernel
theorem tX8_tellStuffs_1 {d : Nat} {l0 l1 l2 l3 : Option Value} {x : Int32} {m : jmM} {Q : Option Value → jmM → Prop} : AW d 120 1 [l0, l1, l2, l3] [.int x] m Q ↔ AW d 120 2 [l0, l1, jc1 l2, some (.int x)] [] m Q := A_istore_n hB_X8_tellStuffs dX8_tellStuffs_1 (Nat.le_of_ble_eq_true rfl) rfl
theorem dX8_tellStuffs_2 : decode cX8_tellStuffs 2 = .ok (.iload_n 3, 1) := by decide +kernel
theorem tX8_tellStuffs_2 {d : Nat} {l0 l1 l2 : Option Value} {x : Int32} {m : jmM} {Q : Option Value → jmM → Prop} : AW d 120 2 [l0, l1, l2, some (.int x)] [] m Q ↔ AW d 120 3 [l0, l1, l2, some (.int x)] [.int x] m Q := A_iload_n hB_X8_tellStuffs dX8_tellStuffs_2 rfl
theorem dX8_tellStuffs_3 : decode cX8_tellStuffs 3 = .ok (.bipush 6, 2) := by decide +kernel
theorem tX8_tellStuffs_3 {d : Nat} {l0 l1 l2 l3 : Option Value} {v0 : Value} {m : jmM} {Q : Option Value → jmM → Prop} : AW d 120 3 [l0, l1, l2, l3] [v0] m Q ↔ AW d 120 5 [l0, l1, l2, l3] [.int 6, v0] m Q := A_bipush hB_X8_tellStuffs dX8_tellStuffs_3 rfl
theorem dX8_tellStuffs_5 : decode cX8_tellStuffs 5 = .ok (.if_icmp .ge 39, 3) := by decide +kernel
theorem tX8_tellStuffs_5 {d : Nat} {l0 l1 l2 l3 : Option Value} {x y : Int32} {m : jmM} {Q : Option Value → jmM → Prop} : AW d 120 5 [l0, l1, l2, l3] [.int y, .int x] m Q ↔ if y ≤ x then AW d 120 44 [l0, l1, l2, l3] [] m Q else AW d 120 8 [l0, l1, l2, l3] [] m Q := A_icmp_ge hB_X8_tellStuffs dX8_tellStuffs_5 (by decide)
theorem dX8_tellStuffs_8 : decode cX8_tellStuffs 8 = .ok (.iload_n 3, 1) := by decide +kernel
theorem tX8_tellStuffs_8 {d : Nat} {l0 l1 l2 : Option Value} {x : Int32} {m : jmM} {Q : Option Value → jmM → Prop} : AW d 120 8 [l0, l1, l2, some (.int x)] [] m Q ↔ AW d 120 9 [l0, l1, l2, some (.int x)] [.int x] m Q := A_iload_n hB_X8_tellStuffs dX8_tellStuffs_8 rfl
theorem dX8_tellStuffs_9 : decode cX8_tellStuffs 9 = .ok (.aload_n 1, 1) := by decide +kernel
theorem tX8_tellStuffs_9 {d : Nat} {l0 l2 l3 : Option Value} {v0 : Value} {x : Nat} {m : jmM} {Q : Option Value → jmM → Prop} : AW d 120 9 [l0, some (.ref x), l2, l3] [v0] m Q ↔ AW d 120 10 [l0, some (.ref x), l2, l3] [.ref x, v0] m Q := A_aload_n hB_X8_tellStuffs dX8_tellStuffs_9 rfl
theorem dX8_tellStuffs_10 : decode cX8_tellStuffs 10 = .ok (.arraylength, 1) := by decide +kernel
theorem tX8_tellStuffs_10 {d : Nat} {l0 l1 l2 l3 : Option Value} {v1 : Value} {a : Nat} {m : jmM} {Q : Option Value → jmM → Prop} : AW d 120 10 [l0, l1, l2, l3] [.ref a, v1] m Q ↔ ((20 ≤ (mS m a).1 ∧ (mS m a).1 ≤ 26) ∨ a = jScr) ∧ AW d 120 11 [l0, l1, l2, l3] [.int (nI (mS m a).2), v1] m Q := A_arraylength hB_X8_tellStuffs dX8_tellStuffs_10
theorem dX8_tellStuffs_11 : decode cX8_tellStuffs 11 = .ok (.if_icmp .ge 33, 3) := by decide +kernel
theorem tX8_tellStuffs_11 {d : Nat} {l0 l1 l2 l3 : Option Value} {x y : Int32} {m : jmM} {Q : Option Value → jmM → Prop} : AW d 120 11 [l0, l1, l2, l3] [.int y, .int x] m Q ↔ if y ≤ x then AW d 120 44 [l0, l1, l2, l3] [] m Q else AW d 120 14 [l0, l1, l2, l3] [] m Q := A_icmp_ge hB_X8_tellStuffs dX8_tellStuffs_11 (by decide)
theorem dX8_tellStuffs_14 : decode cX8_tellStuffs 14 = .ok (.iload_n 3, 1) := by decide +kernel
theorem tX8_tellStuffs_14 {d : Nat} {l0 l1 l2 : Option Value} {x : Int32} {m : jmM} {Q : Option Value → jmM → Prop} : AW d 120 14 [l0, l1, l2, some (.int x)] [] m Q ↔ AW d 120 15 [l0, l1, l2, some (.int x)] [.int x] m Q := A_iload_n hB_X8_tellStuffs dX8_tellStuffs_14 rfl
theorem dX8_tellStuffs_15 : decode cX8_tellStuffs 15 = .ok (.aload_n 2, 1) := by decide +kernel
theorem tX8_tellStuffs_15 {d : Nat} {l0 l1 l3 : Option Value} {v0 : Value} {x : Nat} {m : jmM} {Q : Option Value → jmM → Prop} : AW d 120 15 [l0, l1, some (.ref x), l3] [v0] m Q ↔ AW d 120 16 [l0, l1, some (.ref x), l3] [.ref x, v0] m Q := A_aload_n hB_X8_tellStuffs dX8_tellStuffs_15 rfl
theorem dX8_tellStuffs_16 : decode cX8_tellStuffs 16 = .ok (.arraylength, 1) := by decide +kernel
theorem tX8_tellStuffs_16 {d : Nat} {l0 l1 l2 l3 : Option Value} {v1 : Value} {a : Nat} {m : jmM} {Q : Option Value → jmM → Prop} : AW d 120 16 [l0, l1, l2, l3] [.ref a, v1] m Q ↔ ((20 ≤ (mS m a).1 ∧ (mS m a).1 ≤ 26) ∨ a = jScr) ∧ AW d 120 17 [l0, l1, l2, l3] [.int (nI (mS m a).2), v1] m Q := A_arraylength hB_X8_tellStuffs dX8_tellStuffs_16
theorem dX8_tellStuffs_17 : decode cX8_tellStuffs 17 = .ok (.if_icmp .ge 27, 3) := by decide +kernel
theorem tX8_tellStuffs_17 {d : Nat} {l0 l1 l2 l3 : Option Value} {x y : Int32} {m : jmM} {Q : Option Value → jmM → Prop} : AW d 120 17 [l0, l1, l2, l3] [.int y, .int x] m Q ↔ if y ≤ x then AW d 120 44 [l0, l1, l2, l3] [] m Q else AW d 120 20 [l0, l1, l2, l3] [] m Q := A_icmp_ge hB_X8_tellStuffs dX8_tellStuffs_17 (by decide)
theorem dX8_tellStuffs_20 : decode cX8_tellStuffs 20 = .ok (.aload_n 0, 1) := by decide +kernel
theorem tX8_tellStuffs_20 {d : Nat} {l1 l2 l3 : Option Value} {x : Nat} {m : jmM} {Q : Option Value → jmM → Prop} : AW d 120 20 [some (.ref x), l1, l2, l3] [] m Q ↔ AW d 120 21 [some (.ref x), l1, l2, l3] [.ref x] m Q := A_aload_n hB_X8_tellStuffs dX8_tellStuffs_20 rfl
theorem dX8_tellStuffs_21 : decode cX8_tellStuffs 21 = .ok (.getfield 30, 3) := by decide +kernel
theorem tX8_tellStuffs_21 {d : Nat} {l0 l1 l2 l3 : Option Value} {a : Nat} {m : jmM} {Q : Option Value → jmM → Prop} : AW d 120 21 [l0, l1, l2, l3] [.ref a] m Q ↔ (mS m a).1 = 8 ∧ AW d 120 24 [l0, l1, l2, l3] [va_rf (mR m a 6)] m Q := A_getfield (f := fun m a => va_rf (mR m a 6)) hB_X8_tellStuffs dX8_tellStuffs_21 hO_X8_tellStuffs fF_8_30 rfl
theorem dX8_tellStuffs_24 : decode cX8_tellStuffs 24 = .ok (.iload_n 3, 1) := by decide +kernel
theorem tX8_tellStuffs_24 {d : Nat} {l0 l1 l2 : Option Value} {v0 : Value} {x : Int32} {m : jmM} {Q : Option Value → jmM → Prop} : AW d 120 24 [l0, l1, l2, some (.int x)] [v0] m Q ↔ AW d 120 25 [l0, l1, l2, some (.int x)] [.int x, v0] m Q := A_iload_n hB_X8_tellStuffs dX8_tellStuffs_24 rfl
theorem dX8_tellStuffs_25 : decode cX8_tellStuffs 25 = .ok (.aload_n 1, 1) := by decide +kernel
theorem tX8_tellStuffs_25 {d : Nat} {l0 l2 l3 : Option Value} {v0 v1 : Value} {x : Nat} {m : jmM} {Q : Option Value → jmM → Prop} : AW d 120 25 [l0, some (.ref x), l2, l3] [v0, v1] m Q ↔ AW d 120 26 [l0, some (.ref x), l2, l3] [.ref x, v0, v1] m Q := A_aload_n hB_X8_tellStuffs dX8_tellStuffs_25 rfl
theorem dX8_tellStuffs_26 : decode cX8_tellStuffs 26 = .ok (.iload_n 3, 1) := by decide +kernel
theorem tX8_tellStuffs_26 {d : Nat} {l0 l1 l2 : Option Value} {v0 v1 v2 : Value} {x : Int32} {m : jmM} {Q : Option Value → jmM → Prop} : AW d 120 26 [l0, l1, l2, some (.int x)] [v0, v1, v2] m Q ↔ AW d 120 27 [l0, l1, l2, some (.int x)] [.int x, v0, v1, v2] m Q := A_iload_n hB_X8_tellStuffs dX8_tellStuffs_26 rfl
theorem dX8_tellStuffs_27 : decode cX8_tellStuffs 27 = .ok (.iaload, 1) := by decide +kernel
theorem tX8_tellStuffs_27 {d : Nat} {l0 l1 l2 l3 : Option Value} {v2 v3 : Value} {i : Int32} {a : Nat} {m : jmM} {Q : Option Value → jmM → Prop} : AW d 120 27 [l0, l1, l2, l3] [.int i, .ref a, v2, v3] m Q ↔ (((mS m a).1 = 20 ∨ a = jScr) ∧ jIx i (mS m a).2) ∧ AW d 120 28 [l0, l1, l2, l3] [.int (mI m a (jx i)), v2, v3] m Q := A_iaload hB_X8_tellStuffs dX8_tellStuffs_27
theorem dX8_tellStuffs_28 : decode cX8_tellStuffs 28 = .ok (.iastore, 1) := by decide +kernel
theorem tX8_tellStuffs_28 {d : Nat} {l0 l1 l2 l3 : Option Value} {x i : Int32} {a : Nat} {m : jmM} {Q : Option Value → jmM → Prop} : AW d 120 28 [l0, l1, l2, l3] [.int x, .int i, .ref a] m Q ↔ ((mS m a).1 = 20 ∧ jIx i (mS m a).2) ∧ AW d 120 29 [l0, l1, l2, l3] [] (cI m a (jup (mI m a) (jx i) x)) Q := A_iastore hB_X8_tellStuffs dX8_tellStuffs_28
theorem dX8_tellStuffs_29 : decode cX8_tellStuffs 29 = .ok (.aload_n 0, 1) := by decide +kernel
theorem tX8_tellStuffs_29 {d : Nat} {l1 l2 l3 : Option Value} {x : Nat} {m : jmM} {Q : Option Value → jmM → Prop} : AW d 120 29 [some (.ref x), l1, l2, l3] [] m Q ↔ AW d 120 30 [some (.ref x), l1, l2, l3] [.ref x] m Q := A_aload_n hB_X8_tellStuffs dX8_tellStuffs_29 rfl
theorem dX8_tellStuffs_30 : decode cX8_tellStuffs 30 = .ok (.getfield 34, 3) := by decide +kernel
theorem tX8_tellStuffs_30 {d : Nat} {l0 l1 l2 l3 : Option Value} {a : Nat} {m : jmM} {Q : Option Value → jmM → Prop} : AW d 120 30 [l0, l1, l2, l3] [.ref a] m Q ↔ (mS m a).1 = 8 ∧ AW d 120 33 [l0, l1, l2, l3] [va_rf (mR m a 7)] m Q := A_getfield (f := fun m a => va_rf (mR m a 7)) hB_X8_tellStuffs dX8_tellStuffs_30 hO_X8_tellStuffs fF_8_34 rfl
theorem dX8_tellStuffs_33 : decode cX8_tellStuffs 33 = .ok (.iload_n 3, 1) := by decide +kernel
theorem tX8_tellStuffs_33 {d : Nat} {l0 l1 l2 : Option Value} {v0 : Value} {x : Int32} {m : jmM} {Q : Option Value → jmM → Prop} : AW d 120 33 [l0, l1, l2, some (.int x)] [v0] m Q ↔ AW d 120 34 [l0, l1, l2, some (.int x)] [.int x, v0] m Q := A_iload_n hB_X8_tellStuffs dX8_tellStuffs_33 rfl
theorem dX8_tellStuffs_34 : decode cX8_tellStuffs 34 = .ok (.aload_n 2, 1) := by decide +kernel
theorem tX8_tellStuffs_34 {d : Nat} {l0 l1 l3 : Option Value} {v0 v1 : Value} {x : Nat} {m : jmM} {Q : Option Value → jmM → Prop} : AW d 120 34 [l0, l1, some (.ref x), l3] [v0, v1] m Q ↔ AW d 120 35 [l0, l1, some (.ref x), l3] [.ref x, v0, v1] m Q := A_aload_n hB_X8_tellStuffs dX8_tellStuffs_34 rfl
theorem dX8_tellStuffs_35 : decode cX8_tellStuffs 35 = .ok (.iload_n 3, 1) := by decide +kernel
theorem tX8_tellStuffs_35 {d : Nat} {l0 l1 l2 : Option Value} {v0 v1 v2 : Value} {x : Int32} {m : jmM} {Q : Option Value → jmM → Prop} : AW d 120 35 [l0, l1, l2, some (.int x)] [v0, v1, v2] m Q ↔ AW d 120 36 [l0, l1, l2, some (.int x)] [.int x, v0, v1, v2] m Q := A_iload_n hB_X8_tellStuffs dX8_tellStuffs_35 rfl
theorem dX8_tellStuffs_36 : decode cX8_tellStuffs 36 = .ok (.iaload, 1) := by decide +kernel
theorem tX8_tellStuffs_36 {d : Nat} {l0 l1 l2 l3 : Option Value} {v2 v3 : Value} {i : Int32} {a : Nat} {m : jmM} {Q : Option Value → jmM → Prop} : AW d 120 36 [l0, l1, l2, l3] [.int i, .ref a, v2, v3] m Q ↔ (((mS m a).1 = 20 ∨ a = jScr) ∧ jIx i (mS m a).2) ∧ AW d 120 37 [l0, l1, l2, l3] [.int (mI m a (jx i)), v2, v3] m Q := A_iaload hB_X8_tellStuffs dX8_tellStuffs_36
theorem dX8_tellStuffs_37 : decode cX8_tellStuffs 37 = .ok (.iastore, 1) := by decide +kernel
theorem tX8_tellStuffs_37 {d : Nat} {l0 l1 l2 l3 : Option Value} {x i : Int32} {a : Nat} {m : jmM} {Q : Option Value → jmM → Prop} : AW d 120 37 [l0, l1, l2, l3] [.int x, .int i, .ref a] m Q ↔ ((mS m a).1 = 20 ∧ jIx i (mS m a).2) ∧ AW d 120 38 [l0, l1, l2, l3] [] (cI m a (jup (mI m a) (jx i) x)) Q := A_iastore hB_X8_tellStuffs dX8_tellStuffs_37
theorem dX8_tellStuffs_38 : decode cX8_tellStuffs 38 = .ok (.iinc 3 1, 3) := by decide +kernel
theorem tX8_tellStuffs_38 {d : Nat} {l0 l1 l2 : Option Value} {x : Int32} {m : jmM} {Q : Option Value → jmM → Prop} : AW d 120 38 [l0, l1, l2, some (.int x)] [] m Q ↔ AW d 120 41 [l0, l1, jc1 l2, some (.int (x + 1))] [] m Q := A_iinc hB_X8_tellStuffs dX8_tellStuffs_38 rfl (Nat.le_of_ble_eq_true rfl) (v := 1) (by decide) rfl
theorem dX8_tellStuffs_41 : decode cX8_tellStuffs 41 = .ok (.goto (-39), 3) := by decide +kernel
theorem tX8_tellStuffs_41 {d : Nat} {l0 l1 l2 l3 : Option Value} {m : jmM} {Q : Option Value → jmM → Prop} : AW d 120 41 [l0, l1, l2, l3] [] m Q ↔ AW d 120 2 [l0, l1, l2, l3] [] m Q := A_goto hB_X8_tellStuffs dX8_tellStuffs_41 (by decide)
theorem dX8_tellStuffs_44 : decode cX8_tellStuffs 44 = .ok (.return_, 1) := by decide +kernel
theorem tX8_tellStuffs_44 {d : Nat} {l0 l1 l2 l3 : Option Value} {m : jmM} {Q : Option Value → jmM → Prop} : AW d 120 44 [l0, l1, l2, l3] [] m Q ↔ Q none m := A_return hB_X8_tellStuffs dX8_tellStuffs_44 hR_X8_tellStuffs
theorem hB_X8_becomeLike : jB 121 = cX8_becomeLike := rfl
theorem hO_X8_becomeLike : jO 121 = 8 := rfl
theorem hR_X8_becomeLike : jRt 121 = none := rfl
theorem nX8_becomeLike (d : Nat) (x0 : Nat) (x1 : Nat) (m : jmM) (Q : Option Value → jmM → Prop) : CC (d + 1) 121 [.ref x0, .ref x1] m Q ↔ AW d 121 0 [some (.ref x0), some (.ref x1)] [] m Q := CC_body (Nat.le_of_ble_eq_true rfl)
theorem dX8_becomeLike_0 : decode cX8_becomeLike 0 = .ok (.aload_n 0, 1) := by decide +kernel
theorem tX8_becomeLike_0 {d : Nat} {l1 : Option Value} {x : Nat} {m : jmM} {Q : Option Value → jmM → Prop} : AW d 121 0 [some (.ref x), l1] [] m Q ↔ AW d 121 1 [some (.ref x), l1] [.ref x] m Q := A_aload_n hB_X8_becomeLike dX8_becomeLike_0 rfl
theorem dX8_becomeLike_1 : decode cX8_becomeLike 1 = .ok (.aload_n 1, 1) := by decide +kernel
theorem tX8_becomeLike_1 {d : Nat} {l0 : Option Value} {v0 : Value} {x : Nat} {m : jmM} {Q : Option Value → jmM → Prop} : AW d 121 1 [l0, some (.ref x)] [v0] m Q ↔ AW d 121 2 [l0, some (.ref x)] [.ref x, v0] m Q := A_aload_n hB_X8_becomeLike dX8_becomeLike_1 rfl
theorem dX8_becomeLike_2 : decode cX8_becomeLike 2 = .ok (.getfield 9, 3) := by decide +kernel
theorem tX8_becomeLike_2 {d : Nat} {l0 l1 : Option Value} {v1 : Value} {a : Nat} {m : jmM} {Q : Option Value → jmM → Prop} : AW d 121 2 [l0, l1] [.ref a, v1] m Q ↔ (mS m a).1 = 8 ∧ AW d 121 5 [l0, l1] [.int (mI m a 0), v1] m Q := A_getfield (f := fun m a => .int (mI m a 0)) hB_X8_becomeLike dX8_becomeLike_2 hO_X8_becomeLike fF_8_9 rfl
theorem dX8_becomeLike_5 : decode cX8_becomeLike 5 = .ok (.aload_n 1, 1) := by decide +kernel
theorem tX8_becomeLike_5 {d : Nat} {l0 : Option Value} {v0 v1 : Value} {x : Nat} {m : jmM} {Q : Option Value → jmM → Prop} : AW d 121 5 [l0, some (.ref x)] [v0, v1] m Q ↔ AW d 121 6 [l0, some (.ref x)] [.ref x, v0, v1] m Q := A_aload_n hB_X8_becomeLike dX8_becomeLike_5 rfl
theorem dX8_becomeLike_6 : decode cX8_becomeLike 6 = .ok (.getfield 15, 3) := by decide +kernel
theorem tX8_becomeLike_6 {d : Nat} {l0 l1 : Option Value} {v1 v2 : Value} {a : Nat} {m : jmM} {Q : Option Value → jmM → Prop} : AW d 121 6 [l0, l1] [.ref a, v1, v2] m Q ↔ (mS m a).1 = 8 ∧ AW d 121 9 [l0, l1] [.int (mI m a 1), v1, v2] m Q := A_getfield (f := fun m a => .int (mI m a 1)) hB_X8_becomeLike dX8_becomeLike_6 hO_X8_becomeLike fF_8_15 rfl
theorem dX8_becomeLike_9 : decode cX8_becomeLike 9 = .ok (.aload_n 1, 1) := by decide +kernel
theorem tX8_becomeLike_9 {d : Nat} {l0 : Option Value} {v0 v1 v2 : Value} {x : Nat} {m : jmM} {Q : Option Value → jmM → Prop} : AW d 121 9 [l0, some (.ref x)] [v0, v1, v2] m Q ↔ AW d 121 10 [l0, some (.ref x)] [.ref x, v0, v1, v2] m Q := A_aload_n hB_X8_becomeLike dX8_becomeLike_9 rfl
theorem dX8_becomeLike_10 : decode cX8_becomeLike 10 = .ok (.getfield 18, 3) := by decide +kernel
theorem tX8_becomeLike_10 {d : Nat} {l0 l1 : Option Value} {v1 v2 v3 : Value} {a : Nat} {m : jmM} {Q : Option Value → jmM → Prop} : AW d 121 10 [l0, l1] [.ref a, v1, v2, v3] m Q ↔ (mS m a).1 = 8 ∧ AW d 121 13 [l0, l1] [.int (mI m a 2), v1, v2, v3] m Q := A_getfield (f := fun m a => .int (mI m a 2)) hB_X8_becomeLike dX8_becomeLike_10 hO_X8_becomeLike fF_8_18 rfl
theorem dX8_becomeLike_13 : decode cX8_becomeLike 13 = .ok (.aload_n 1, 1) := by decide +kernel
theorem tX8_becomeLike_13 {d : Nat} {l0 : Option Value} {v0 v1 v2 v3 : Value} {x : Nat} {m : jmM} {Q : Option Value → jmM → Prop} : AW d 121 13 [l0, some (.ref x)] [v0, v1, v2, v3] m Q ↔ AW d 121 14 [l0, some (.ref x)] [.ref x, v0, v1, v2, v3] m Q := A_aload_n hB_X8_becomeLike dX8_becomeLike_13 rfl
theorem dX8_becomeLike_14 : decode cX8_becomeLike 14 = .ok (.getfield 21, 3) := by decide +kernel
theorem tX8_becomeLike_14 {d : Nat} {l0 l1 : Option Value} {v1 v2 v3 v4 : Value} {a : Nat} {m : jmM} {Q : Option Value → jmM → Prop} : AW d 121 14 [l0, l1] [.ref a, v1, v2, v3, v4] m Q ↔ (mS m a).1 = 8 ∧ AW d 121 17 [l0, l1] [.int (mI m a 3), v1, v2, v3, v4] m Q := A_getfield (f := fun m a => .int (mI m a 3)) hB_X8_becomeLike dX8_becomeLike_14 hO_X8_becomeLike fF_8_21 rfl
theorem dX8_becomeLike_17 : decode cX8_becomeLike 17 = .ok (.aload_n 1, 1) := by decide +kernel
theorem tX8_becomeLike_17 {d : Nat} {l0 : Option Value} {v0 v1 v2 v3 v4 : Value} {x : Nat} {m : jmM} {Q : Option Value → jmM → Prop} : AW d 121 17 [l0, some (.ref x)] [v0, v1, v2, v3, v4] m Q ↔ AW d 121 18 [l0, some (.ref x)] [.ref x, v0, v1, v2, v3, v4] m Q := A_aload_n hB_X8_becomeLike dX8_becomeLike_17 rfl
theorem dX8_becomeLike_18 : decode cX8_becomeLike 18 = .ok (.getfield 24, 3) := by decide +kernel
theorem tX8_becomeLike_18 {d : Nat} {l0 l1 : Option Value} {v1 v2 v3 v4 v5 : Value} {a : Nat} {m : jmM} {Q : Option Value → jmM → Prop} : AW d 121 18 [l0, l1] [.ref a, v1, v2, v3, v4, v5] m Q ↔ (mS m a).1 = 8 ∧ AW d 121 21 [l0, l1] [.int (mI m a 4), v1, v2, v3, v4, v5] m Q := A_getfield (f := fun m a => .int (mI m a 4)) hB_X8_becomeLike dX8_becomeLike_18 hO_X8_becomeLike fF_8_24 rfl
theorem dX8_becomeLike_21 : decode cX8_becomeLike 21 = .ok (.aload_n 1, 1) := by decide +kernel
theorem tX8_becomeLike_21 {d : Nat} {l0 : Option Value} {v0 v1 v2 v3 v4 v5 : Value} {x : Nat} {m : jmM} {Q : Option Value → jmM → Prop} : AW d 121 21 [l0, some (.ref x)] [v0, v1, v2, v3, v4, v5] m Q ↔ AW d 121 22 [l0, some (.ref x)] [.ref x, v0, v1, v2, v3, v4, v5] m Q := A_aload_n hB_X8_becomeLike dX8_becomeLike_21 rfl
theorem dX8_becomeLike_22 : decode cX8_becomeLike 22 = .ok (.getfield 27, 3) := by decide +kernel
theorem tX8_becomeLike_22 {d : Nat} {l0 l1 : Option Value} {v1 v2 v3 v4 v5 v6 : Value} {a : Nat} {m : jmM} {Q : Option Value → jmM → Prop} : AW d 121 22 [l0, l1] [.ref a, v1, v2, v3, v4, v5, v6] m Q ↔ (mS m a).1 = 8 ∧ AW d 121 25 [l0, l1] [.int (mI m a 5), v1, v2, v3, v4, v5, v6] m Q := A_getfield (f := fun m a => .int (mI m a 5)) hB_X8_becomeLike dX8_becomeLike_22 hO_X8_becomeLike fF_8_27 rfl
theorem dX8_becomeLike_25 : decode cX8_becomeLike 25 = .ok (.invokevirtual 37, 3) := by decide +kernel
theorem tX8_becomeLike_25 {d : Nat} {l0 l1 : Option Value} {y0 y1 y2 y3 y4 y5 : Value} {a : Nat} {m : jmM} {Q : Option Value → jmM → Prop} : AW d 121 25 [l0, l1] [y0, y1, y2, y3, y4, y5, .ref a] m Q ↔ (mS m a).1 = 8 ∧ CC d 119 [.ref a, y5, y4, y3, y2, y1, y0] m (jK d 121 28 [l0, l1] [] Q) := A_callV hB_X8_becomeLike dX8_becomeLike_25 hO_X8_becomeLike fS_8_37 ⟨Nat.le_of_ble_eq_true rfl, Nat.le_of_ble_eq_true rfl⟩ rfl rfl rfl
theorem dX8_becomeLike_28 : decode cX8_becomeLike 28 = .ok (.aload_n 0, 1) := by decide +kernel
theorem tX8_becomeLike_28 {d : Nat} {l1 : Option Value} {x : Nat} {m : jmM} {Q : Option Value → jmM → Prop} : AW d 121 28 [some (.ref x), l1] [] m Q ↔ AW d 121 29 [some (.ref x), l1] [.ref x] m Q := A_aload_n hB_X8_becomeLike dX8_becomeLike_28 rfl
theorem dX8_becomeLike_29 : decode cX8_becomeLike 29 = .ok (.aload_n 1, 1) := by decide +kernel
theorem tX8_becomeLike_29 {d : Nat} {l0 : Option Value} {v0 : Value} {x : Nat} {m : jmM} {Q : Option Value → jmM → Prop} : AW d 121 29 [l0, some (.ref x)] [v0] m Q ↔ AW d 121 30 [l0, some (.ref x)] [.ref x, v0] m Q := A_aload_n hB_X8_becomeLike dX8_becomeLike_29 rfl
theorem dX8_becomeLike_30 : decode cX8_becomeLike 30 = .ok (.getfield 30, 3) := by decide +kernel
theorem tX8_becomeLike_30 {d : Nat} {l0 l1 : Option Value} {v1 : Value} {a : Nat} {m : jmM} {Q : Option Value → jmM → Prop} : AW d 121 30 [l0, l1] [.ref a, v1] m Q ↔ (mS m a).1 = 8 ∧ AW d 121 33 [l0, l1] [va_rf (mR m a 6), v1] m Q := A_getfield (f := fun m a => va_rf (mR m a 6)) hB_X8_becomeLike dX8_becomeLike_30 hO_X8_becomeLike fF_8_30 rfl
theorem dX8_becomeLike_33 : decode cX8_becomeLike 33 = .ok (.aload_n 1, 1) := by decide +kernel
theorem tX8_becomeLike_33 {d : Nat} {l0 : Option Value} {v0 v1 : Value} {x : Nat} {m : jmM} {Q : Option Value → jmM → Prop} : AW d 121 33 [l0, some (.ref x)] [v0, v1] m Q ↔ AW d 121 34 [l0, some (.ref x)] [.ref x, v0, v1] m Q := A_aload_n hB_X8_becomeLike dX8_becomeLike_33 rfl
theorem dX8_becomeLike_34 : decode cX8_becomeLike 34 = .ok (.getfield 34, 3) := by decide +kernel
theorem tX8_becomeLike_34 {d : Nat} {l0 l1 : Option Value} {v1 v2 : Value} {a : Nat} {m : jmM} {Q : Option Value → jmM → Prop} : AW d 121 34 [l0, l1] [.ref a, v1, v2] m Q ↔ (mS m a).1 = 8 ∧ AW d 121 37 [l0, l1] [va_rf (mR m a 7), v1, v2] m Q := A_getfield (f := fun m a => va_rf (mR m a 7)) hB_X8_becomeLike dX8_becomeLike_34 hO_X8_becomeLike fF_8_34 rfl
theorem dX8_becomeLike_37 : decode cX8_becomeLike 37 = .ok (.invokevirtual 41, 3) := by decide +kernel
theorem tX8_becomeLike_37 {d : Nat} {l0 l1 : Option Value} {y0 y1 : Value} {a : Nat} {m : jmM} {Q : Option Value → jmM → Prop} : AW d 121 37 [l0, l1] [y0, y1, .ref a] m Q ↔ (mS m a).1 = 8 ∧ CC d 120 [.ref a, y1, y0] m (jK d 121 40 [l0, l1] [] Q) := A_callV hB_X8_becomeLike dX8_becomeLike_37 hO_X8_becomeLike fS_8_41 ⟨Nat.le_of_ble_eq_true rfl, Nat.le_of_ble_eq_true rfl⟩ rfl rfl rfl
theorem dX8_becomeLike_40 : decode cX8_becomeLike 40 = .ok (.return_, 1) := by decide +kernel
theorem tX8_becomeLike_40 {d : Nat} {l0 l1 : Option Value} {m : jmM} {Q : Option Value → jmM → Prop} : AW d 121 40 [l0, l1] [] m Q ↔ Q none m := A_return hB_X8_becomeLike dX8_becomeLike_40 hR_X8_becomeLike
theorem hB_X8_grams : jB 122 = cX8_grams := rfl
theorem hO_X8_grams : jO 122 = 8 := rfl
theorem hR_X8_grams : jRt 122 = (some .int) := rfl
theorem nX8_grams (d : Nat) (x0 : Nat) (m : jmM) (Q : Option Value → jmM → Prop) : CC (d + 1) 122 [.ref x0] m Q ↔ AW d 122 0 [some (.ref x0)] [] m Q := CC_body (Nat.le_of_ble_eq_true rfl)
theorem dX8_grams_0 : decode cX8_grams 0 = .ok (.aload_n 0, 1) := by decide +kernel
theorem tX8_grams_0 {d : Nat} {x : Nat} {m : jmM} {Q : Option Value → jmM → Prop} : AW d 122 0 [some (.ref x)] [] m Q ↔ AW d 122 1 [some (.ref x)] [.ref x] m Q := A_aload_n hB_X8_grams dX8_grams_0 rfl
theorem dX8_grams_1 : decode cX8_grams 1 = .ok (.getfield 9, 3) := by decide +kernel
theorem tX8_grams_1 {d : Nat} {l0 : Option Value} {a : Nat} {m : jmM} {Q : Option Value → jmM → Prop} : AW d 122 1 [l0] [.ref a] m Q ↔ (mS m a).1 = 8 ∧ AW d 122 4 [l0] [.int (mI m a 0)] m Q := A_getfield (f := fun m a => .int (mI m a 0)) hB_X8_grams dX8_grams_1 hO_X8_grams fF_8_9 rfl
theorem dX8_grams_4 : decode cX8_grams 4 = .ok (.ireturn, 1) := by decide +kernel
theorem tX8_grams_4 {d : Nat} {l0 : Option Value} {x : Int32} {m : jmM} {Q : Option Value → jmM → Prop} : AW d 122 4 [l0] [.int x] m Q ↔ Q (some (.int x)) m := A_ireturn hB_X8_grams dX8_grams_4 hR_X8_grams
theorem hB_X8_wideWanted : jB 123 = cX8_wideWanted := rfl
theorem hO_X8_wideWanted : jO 123 = 8 := rfl
theorem hR_X8_wideWanted : jRt 123 = (some .int) := rfl
theorem nX8_wideWanted (d : Nat) (x0 : Nat) (m : jmM) (Q : Option Value → jmM → Prop) : CC (d + 1) 123 [.ref x0] m Q ↔ AW d 123 0 [some (.ref x0)] [] m Q := CC_body (Nat.le_of_ble_eq_true rfl)
theorem dX8_wideWanted_0 : decode cX8_wideWanted 0 = .ok (.aload_n 0, 1) := by decide +kernel
theorem tX8_wideWanted_0 {d : Nat} {x : Nat} {m : jmM} {Q : Option Value → jmM → Prop} : AW d 123 0 [some (.ref x)] [] m Q ↔ AW d 123 1 [some (.ref x)] [.ref x] m Q := A_aload_n hB_X8_wideWanted dX8_wideWanted_0 rfl
theorem dX8_wideWanted_1 : decode cX8_wideWanted 1 = .ok (.getfield 15, 3) := by decide +kernel
theorem tX8_wideWanted_1 {d : Nat} {l0 : Option Value} {a : Nat} {m : jmM} {Q : Option Value → jmM → Prop} : AW d 123 1 [l0] [.ref a] m Q ↔ (mS m a).1 = 8 ∧ AW d 123 4 [l0] [.int (mI m a 1)] m Q := A_getfield (f := fun m a => .int (mI m a 1)) hB_X8_wideWanted dX8_wideWanted_1 hO_X8_wideWanted fF_8_15 rfl
theorem dX8_wideWanted_4 : decode cX8_wideWanted 4 = .ok (.ireturn, 1) := by decide +kernel
theorem tX8_wideWanted_4 {d : Nat} {l0 : Option Value} {x : Int32} {m : jmM} {Q : Option Value → jmM → Prop} : AW d 123 4 [l0] [.int x] m Q ↔ Q (some (.int x)) m := A_ireturn hB_X8_wideWanted dX8_wideWanted_4 hR_X8_wideWanted
theorem hB_X8_heat : jB 124 = cX8_heat := rfl
theorem hO_X8_heat : jO 124 = 8 := rfl
theorem hR_X8_heat : jRt 124 = (some .int) := rfl
theorem nX8_heat (d : Nat) (x0 : Nat) (m : jmM) (Q : Option Value → jmM → Prop) : CC (d + 1) 124 [.ref x0] m Q ↔ AW d 124 0 [some (.ref x0)] [] m Q := CC_body (Nat.le_of_ble_eq_true rfl)
theorem dX8_heat_0 : decode cX8_heat 0 = .ok (.aload_n 0, 1) := by decide +kernel
theorem tX8_heat_0 {d : Nat} {x : Nat} {m : jmM} {Q : Option Value → jmM → Prop} : AW d 124 0 [some (.ref x)] [] m Q ↔ AW d 124 1 [some (.ref x)] [.ref x] m Q := A_aload_n hB_X8_heat dX8_heat_0 rfl
theorem dX8_heat_1 : decode cX8_heat 1 = .ok (.getfield 18, 3) := by decide +kernel
theorem tX8_heat_1 {d : Nat} {l0 : Option Value} {a : Nat} {m : jmM} {Q : Option Value → jmM → Prop} : AW d 124 1 [l0] [.ref a] m Q ↔ (mS m a).1 = 8 ∧ AW d 124 4 [l0] [.int (mI m a 2)] m Q := A_getfield (f := fun m a => .int (mI m a 2)) hB_X8_heat dX8_heat_1 hO_X8_heat fF_8_18 rfl
theorem dX8_heat_4 : decode cX8_heat 4 = .ok (.ireturn, 1) := by decide +kernel
theorem tX8_heat_4 {d : Nat} {l0 : Option Value} {x : Int32} {m : jmM} {Q : Option Value → jmM → Prop} : AW d 124 4 [l0] [.int x] m Q ↔ Q (some (.int x)) m := A_ireturn hB_X8_heat dX8_heat_4 hR_X8_heat
theorem hB_X8_wide : jB 125 = cX8_wide := rfl
theorem hO_X8_wide : jO 125 = 8 := rfl
theorem hR_X8_wide : jRt 125 = (some .int) := rfl
theorem nX8_wide (d : Nat) (x0 : Nat) (m : jmM) (Q : Option Value → jmM → Prop) : CC (d + 1) 125 [.ref x0] m Q ↔ AW d 125 0 [some (.ref x0)] [] m Q := CC_body (Nat.le_of_ble_eq_true rfl)
theorem dX8_wide_0 : decode cX8_wide 0 = .ok (.aload_n 0, 1) := by decide +kernel
theorem tX8_wide_0 {d : Nat} {x : Nat} {m : jmM} {Q : Option Value → jmM → Prop} : AW d 125 0 [some (.ref x)] [] m Q ↔ AW d 125 1 [some (.ref x)] [.ref x] m Q := A_aload_n hB_X8_wide dX8_wide_0 rfl
theorem dX8_wide_1 : decode cX8_wide 1 = .ok (.getfield 21, 3) := by decide +kernel
theorem tX8_wide_1 {d : Nat} {l0 : Option Value} {a : Nat} {m : jmM} {Q : Option Value → jmM → Prop} : AW d 125 1 [l0] [.ref a] m Q ↔ (mS m a).1 = 8 ∧ AW d 125 4 [l0] [.int (mI m a 3)] m Q := A_getfield (f := fun m a => .int (mI m a 3)) hB_X8_wide dX8_wide_1 hO_X8_wide fF_8_21 rfl
theorem dX8_wide_4 : decode cX8_wide 4 = .ok (.ireturn, 1) := by decide +kernel
theorem tX8_wide_4 {d : Nat} {l0 : Option Value} {x : Int32} {m : jmM} {Q : Option Value → jmM → Prop} : AW d 125 4 [l0] [.int x] m Q ↔ Q (some (.int x)) m := A_ireturn hB_X8_wide dX8_wide_4 hR_X8_wide
theorem hB_X8_life : jB 126 = cX8_life := rfl
theorem hO_X8_life : jO 126 = 8 := rfl
theorem hR_X8_life : jRt 126 = (some .int) := rfl
theorem nX8_life (d : Nat) (x0 : Nat) (m : jmM) (Q : Option Value → jmM → Prop) : CC (d + 1) 126 [.ref x0] m Q ↔ AW d 126 0 [some (.ref x0)] [] m Q := CC_body (Nat.le_of_ble_eq_true rfl)
theorem dX8_life_0 : decode cX8_life 0 = .ok (.aload_n 0, 1) := by decide +kernel
theorem tX8_life_0 {d : Nat} {x : Nat} {m : jmM} {Q : Option Value → jmM → Prop} : AW d 126 0 [some (.ref x)] [] m Q ↔ AW d 126 1 [some (.ref x)] [.ref x] m Q := A_aload_n hB_X8_life dX8_life_0 rfl
theorem dX8_life_1 : decode cX8_life 1 = .ok (.getfield 24, 3) := by decide +kernel
theorem tX8_life_1 {d : Nat} {l0 : Option Value} {a : Nat} {m : jmM} {Q : Option Value → jmM → Prop} : AW d 126 1 [l0] [.ref a] m Q ↔ (mS m a).1 = 8 ∧ AW d 126 4 [l0] [.int (mI m a 4)] m Q := A_getfield (f := fun m a => .int (mI m a 4)) hB_X8_life dX8_life_1 hO_X8_life fF_8_24 rfl
theorem dX8_life_4 : decode cX8_life 4 = .ok (.ireturn, 1) := by decide +kernel
theorem tX8_life_4 {d : Nat} {l0 : Option Value} {x : Int32} {m : jmM} {Q : Option Value → jmM → Prop} : AW d 126 4 [l0] [.int x] m Q ↔ Q (some (.int x)) m := A_ireturn hB_X8_life dX8_life_4 hR_X8_life
theorem hB_X8_faultsThen : jB 127 = cX8_faultsThen := rfl
theorem hO_X8_faultsThen : jO 127 = 8 := rfl
theorem hR_X8_faultsThen : jRt 127 = (some .int) := rfl
theorem nX8_faultsThen (d : Nat) (x0 : Nat) (m : jmM) (Q : Option Value → jmM → Prop) : CC (d + 1) 127 [.ref x0] m Q ↔ AW d 127 0 [some (.ref x0)] [] m Q := CC_body (Nat.le_of_ble_eq_true rfl)
theorem dX8_faultsThen_0 : decode cX8_faultsThen 0 = .ok (.aload_n 0, 1) := by decide +kernel
theorem tX8_faultsThen_0 {d : Nat} {x : Nat} {m : jmM} {Q : Option Value → jmM → Prop} : AW d 127 0 [some (.ref x)] [] m Q ↔ AW d 127 1 [some (.ref x)] [.ref x] m Q := A_aload_n hB_X8_faultsThen dX8_faultsThen_0 rfl
theorem dX8_faultsThen_1 : decode cX8_faultsThen 1 = .ok (.getfield 27, 3) := by decide +kernel
theorem tX8_faultsThen_1 {d : Nat} {l0 : Option Value} {a : Nat} {m : jmM} {Q : Option Value → jmM → Prop} : AW d 127 1 [l0] [.ref a] m Q ↔ (mS m a).1 = 8 ∧ AW d 127 4 [l0] [.int (mI m a 5)] m Q := A_getfield (f := fun m a => .int (mI m a 5)) hB_X8_faultsThen dX8_faultsThen_1 hO_X8_faultsThen fF_8_27 rfl
theorem dX8_faultsThen_4 : decode cX8_faultsThen 4 = .ok (.ireturn, 1) := by decide +kernel
theorem tX8_faultsThen_4 {d : Nat} {l0 : Option Value} {x : Int32} {m : jmM} {Q : Option Value → jmM → Prop} : AW d 127 4 [l0] [.int x] m Q ↔ Q (some (.int x)) m := A_ireturn hB_X8_faultsThen dX8_faultsThen_4 hR_X8_faultsThen
theorem hB_X8_putOf : jB 128 = cX8_putOf := rfl
theorem hO_X8_putOf : jO 128 = 8 := rfl
theorem hR_X8_putOf : jRt 128 = (some .int) := rfl
theorem nX8_putOf (d : Nat) (x0 : Nat) (x1 : Int32) (m : jmM) (Q : Option Value → jmM → Prop) : CC (d + 1) 128 [.ref x0, .int x1] m Q ↔ AW d 128 0 [some (.ref x0), some (.int x1)] [] m Q := CC_body (Nat.le_of_ble_eq_true rfl)
theorem dX8_putOf_0 : decode cX8_putOf 0 = .ok (.iload_n 1, 1) := by decide +kernel
theorem tX8_putOf_0 {d : Nat} {l0 : Option Value} {x : Int32} {m : jmM} {Q : Option Value → jmM → Prop} : AW d 128 0 [l0, some (.int x)] [] m Q ↔ AW d 128 1 [l0, some (.int x)] [.int x] m Q := A_iload_n hB_X8_putOf dX8_putOf_0 rfl
theorem dX8_putOf_1 : decode cX8_putOf 1 = .ok (.invokestatic 45, 3) := by decide +kernel
theorem tX8_putOf_1 {d : Nat} {l0 l1 : Option Value} {y0 : Value} {m : jmM} {Q : Option Value → jmM → Prop} : AW d 128 1 [l0, l1] [y0] m Q ↔ CC d 182 [y0] m (jK d 128 4 [l0, l1] [] Q) := A_callS4 hB_X8_putOf dX8_putOf_1 hO_X8_putOf fS_8_45 ⟨Nat.le_of_ble_eq_true rfl, Nat.le_of_ble_eq_true rfl⟩ rfl rfl
theorem dX8_putOf_4 : decode cX8_putOf 4 = .ok (.ifCond .eq 12, 3) := by decide +kernel
theorem tX8_putOf_4 {d : Nat} {l0 l1 : Option Value} {x : Int32} {m : jmM} {Q : Option Value → jmM → Prop} : AW d 128 4 [l0, l1] [.int x] m Q ↔ if x = 0 then AW d 128 16 [l0, l1] [] m Q else AW d 128 7 [l0, l1] [] m Q := A_if_eq hB_X8_putOf dX8_putOf_4 (by decide)
theorem dX8_putOf_7 : decode cX8_putOf 7 = .ok (.aload_n 0, 1) := by decide +kernel
theorem tX8_putOf_7 {d : Nat} {l1 : Option Value} {x : Nat} {m : jmM} {Q : Option Value → jmM → Prop} : AW d 128 7 [some (.ref x), l1] [] m Q ↔ AW d 128 8 [some (.ref x), l1] [.ref x] m Q := A_aload_n hB_X8_putOf dX8_putOf_7 rfl
theorem dX8_putOf_8 : decode cX8_putOf 8 = .ok (.getfield 30, 3) := by decide +kernel
theorem tX8_putOf_8 {d : Nat} {l0 l1 : Option Value} {a : Nat} {m : jmM} {Q : Option Value → jmM → Prop} : AW d 128 8 [l0, l1] [.ref a] m Q ↔ (mS m a).1 = 8 ∧ AW d 128 11 [l0, l1] [va_rf (mR m a 6)] m Q := A_getfield (f := fun m a => va_rf (mR m a 6)) hB_X8_putOf dX8_putOf_8 hO_X8_putOf fF_8_30 rfl
theorem dX8_putOf_11 : decode cX8_putOf 11 = .ok (.iload_n 1, 1) := by decide +kernel
theorem tX8_putOf_11 {d : Nat} {l0 : Option Value} {v0 : Value} {x : Int32} {m : jmM} {Q : Option Value → jmM → Prop} : AW d 128 11 [l0, some (.int x)] [v0] m Q ↔ AW d 128 12 [l0, some (.int x)] [.int x, v0] m Q := A_iload_n hB_X8_putOf dX8_putOf_11 rfl
theorem dX8_putOf_12 : decode cX8_putOf 12 = .ok (.iaload, 1) := by decide +kernel
theorem tX8_putOf_12 {d : Nat} {l0 l1 : Option Value} {i : Int32} {a : Nat} {m : jmM} {Q : Option Value → jmM → Prop} : AW d 128 12 [l0, l1] [.int i, .ref a] m Q ↔ (((mS m a).1 = 20 ∨ a = jScr) ∧ jIx i (mS m a).2) ∧ AW d 128 13 [l0, l1] [.int (mI m a (jx i))] m Q := A_iaload hB_X8_putOf dX8_putOf_12
theorem dX8_putOf_13 : decode cX8_putOf 13 = .ok (.goto 4, 3) := by decide +kernel
theorem tX8_putOf_13 {d : Nat} {l0 l1 : Option Value} {v0 : Value} {m : jmM} {Q : Option Value → jmM → Prop} : AW d 128 13 [l0, l1] [v0] m Q ↔ AW d 128 17 [l0, l1] [v0] m Q := A_goto hB_X8_putOf dX8_putOf_13 (by decide)
theorem dX8_putOf_16 : decode cX8_putOf 16 = .ok (.iconst 0, 1) := by decide +kernel
theorem tX8_putOf_16 {d : Nat} {l0 l1 : Option Value} {m : jmM} {Q : Option Value → jmM → Prop} : AW d 128 16 [l0, l1] [] m Q ↔ AW d 128 17 [l0, l1] [.int 0] m Q := A_iconst hB_X8_putOf dX8_putOf_16 (by decide)
theorem dX8_putOf_17 : decode cX8_putOf 17 = .ok (.ireturn, 1) := by decide +kernel
theorem tX8_putOf_17 {d : Nat} {l0 l1 : Option Value} {x : Int32} {m : jmM} {Q : Option Value → jmM → Prop} : AW d 128 17 [l0, l1] [.int x] m Q ↔ Q (some (.int x)) m := A_ireturn hB_X8_putOf dX8_putOf_17 hR_X8_putOf
theorem hB_X8_shareOf : jB 129 = cX8_shareOf := rfl
theorem hO_X8_shareOf : jO 129 = 8 := rfl
theorem hR_X8_shareOf : jRt 129 = (some .int) := rfl
theorem nX8_shareOf (d : Nat) (x0 : Nat) (x1 : Int32) (m : jmM) (Q : Option Value → jmM → Prop) : CC (d + 1) 129 [.ref x0, .int x1] m Q ↔ AW d 129 0 [some (.ref x0), some (.int x1)] [] m Q := CC_body (Nat.le_of_ble_eq_true rfl)
theorem dX8_shareOf_0 : decode cX8_shareOf 0 = .ok (.iload_n 1, 1) := by decide +kernel
theorem tX8_shareOf_0 {d : Nat} {l0 : Option Value} {x : Int32} {m : jmM} {Q : Option Value → jmM → Prop} : AW d 129 0 [l0, some (.int x)] [] m Q ↔ AW d 129 1 [l0, some (.int x)] [.int x] m Q := A_iload_n hB_X8_shareOf dX8_shareOf_0 rfl
theorem dX8_shareOf_1 : decode cX8_shareOf 1 = .ok (.invokestatic 45, 3) := by decide +kernel
theorem tX8_shareOf_1 {d : Nat} {l0 l1 : Option Value} {y0 : Value} {m : jmM} {Q : Option Value → jmM → Prop} : AW d 129 1 [l0, l1] [y0] m Q ↔ CC d 182 [y0] m (jK d 129 4 [l0, l1] [] Q) := A_callS4 hB_X8_shareOf dX8_shareOf_1 hO_X8_shareOf fS_8_45 ⟨Nat.le_of_ble_eq_true rfl, Nat.le_of_ble_eq_true rfl⟩ rfl rfl
theorem dX8_shareOf_4 : decode cX8_shareOf 4 = .ok (.ifCond .eq 12, 3) := by decide +kernel
theorem tX8_shareOf_4 {d : Nat} {l0 l1 : Option Value} {x : Int32} {m : jmM} {Q : Option Value → jmM → Prop} : AW d 129 4 [l0, l1] [.int x] m Q ↔ if x = 0 then AW d 129 16 [l0, l1] [] m Q else AW d 129 7 [l0, l1] [] m Q := A_if_eq hB_X8_shareOf dX8_shareOf_4 (by decide)
theorem dX8_shareOf_7 : decode cX8_shareOf 7 = .ok (.aload_n 0, 1) := by decide +kernel
theorem tX8_shareOf_7 {d : Nat} {l1 : Option Value} {x : Nat} {m : jmM} {Q : Option Value → jmM → Prop} : AW d 129 7 [some (.ref x), l1] [] m Q ↔ AW d 129 8 [some (.ref x), l1] [.ref x] m Q := A_aload_n hB_X8_shareOf dX8_shareOf_7 rfl
theorem dX8_shareOf_8 : decode cX8_shareOf 8 = .ok (.getfield 34, 3) := by decide +kernel
theorem tX8_shareOf_8 {d : Nat} {l0 l1 : Option Value} {a : Nat} {m : jmM} {Q : Option Value → jmM → Prop} : AW d 129 8 [l0, l1] [.ref a] m Q ↔ (mS m a).1 = 8 ∧ AW d 129 11 [l0, l1] [va_rf (mR m a 7)] m Q := A_getfield (f := fun m a => va_rf (mR m a 7)) hB_X8_shareOf dX8_shareOf_8 hO_X8_shareOf fF_8_34 rfl
theorem dX8_shareOf_11 : decode cX8_shareOf 11 = .ok (.iload_n 1, 1) := by decide +kernel
theorem tX8_shareOf_11 {d : Nat} {l0 : Option Value} {v0 : Value} {x : Int32} {m : jmM} {Q : Option Value → jmM → Prop} : AW d 129 11 [l0, some (.int x)] [v0] m Q ↔ AW d 129 12 [l0, some (.int x)] [.int x, v0] m Q := A_iload_n hB_X8_shareOf dX8_shareOf_11 rfl
theorem dX8_shareOf_12 : decode cX8_shareOf 12 = .ok (.iaload, 1) := by decide +kernel
theorem tX8_shareOf_12 {d : Nat} {l0 l1 : Option Value} {i : Int32} {a : Nat} {m : jmM} {Q : Option Value → jmM → Prop} : AW d 129 12 [l0, l1] [.int i, .ref a] m Q ↔ (((mS m a).1 = 20 ∨ a = jScr) ∧ jIx i (mS m a).2) ∧ AW d 129 13 [l0, l1] [.int (mI m a (jx i))] m Q := A_iaload hB_X8_shareOf dX8_shareOf_12
theorem dX8_shareOf_13 : decode cX8_shareOf 13 = .ok (.goto 4, 3) := by decide +kernel
theorem tX8_shareOf_13 {d : Nat} {l0 l1 : Option Value} {v0 : Value} {m : jmM} {Q : Option Value → jmM → Prop} : AW d 129 13 [l0, l1] [v0] m Q ↔ AW d 129 17 [l0, l1] [v0] m Q := A_goto hB_X8_shareOf dX8_shareOf_13 (by decide)
theorem dX8_shareOf_16 : decode cX8_shareOf 16 = .ok (.iconst 0, 1) := by decide +kernel
theorem tX8_shareOf_16 {d : Nat} {l0 l1 : Option Value} {m : jmM} {Q : Option Value → jmM → Prop} : AW d 129 16 [l0, l1] [] m Q ↔ AW d 129 17 [l0, l1] [.int 0] m Q := A_iconst hB_X8_shareOf dX8_shareOf_16 (by decide)
theorem dX8_shareOf_17 : decode cX8_shareOf 17 = .ok (.ireturn, 1) := by decide +kernel
theorem tX8_shareOf_17 {d : Nat} {l0 l1 : Option Value} {x : Int32} {m : jmM} {Q : Option Value → jmM → Prop} : AW d 129 17 [l0, l1] [.int x] m Q ↔ Q (some (.int x)) m := A_ireturn hB_X8_shareOf dX8_shareOf_17 hR_X8_shareOf
