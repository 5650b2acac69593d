/-! steps of PulledCrystal$Cutter, by program -/
theorem hB_X0_init : jB 0 = cX0_init := rfl
theorem hO_X0_init : jO 0 = 0 := rfl
theorem hR_X0_init : jRt 0 = none := rfl
theorem nX0_init (d : Nat) (x0 : Nat) (m : jmM) (Q : Option Value → jmM → Prop) : CC (d + 1) 0 [.ref x0] m Q ↔ AW d 0 0 [some (.ref x0)] [] m Q := CC_body (Nat.le_of_ble_eq_true rfl)
theorem dX0_init_0 : decode cX0_init 0 = .ok (.aload_n 0, 1) := by decide +kernel
theorem tX0_init_0 {d : Nat} {x : Nat} {m : jmM} {Q : Option Value → jmM → Prop} : AW d 0 0 [some (.ref x)] [] m Q ↔ AW d 0 1 [some (.ref x)] [.ref x] m Q := A_aload_n hB_X0_init dX0_init_0 rfl
theorem dX0_init_1 : decode cX0_init 1 = .ok (.invokespecial 3, 3) := by decide +kernel
theorem tX0_init_1 {d : Nat} {l0 : Option Value} {a : Nat} {m : jmM} {Q : Option Value → jmM → Prop} : AW d 0 1 [l0] [.ref a] m Q ↔ AW d 0 4 [l0] [] m Q := A_obj hB_X0_init dX0_init_1 hO_X0_init fS_0_3 (Nat.le_of_ble_eq_true rfl)
theorem dX0_init_4 : decode cX0_init 4 = .ok (.aload_n 0, 1) := by decide +kernel
theorem tX0_init_4 {d : Nat} {x : Nat} {m : jmM} {Q : Option Value → jmM → Prop} : AW d 0 4 [some (.ref x)] [] m Q ↔ AW d 0 5 [some (.ref x)] [.ref x] m Q := A_aload_n hB_X0_init dX0_init_4 rfl
theorem dX0_init_5 : decode cX0_init 5 = .ok (.sipush 601, 3) := by decide +kernel
theorem tX0_init_5 {d : Nat} {l0 : Option Value} {v0 : Value} {m : jmM} {Q : Option Value → jmM → Prop} : AW d 0 5 [l0] [v0] m Q ↔ AW d 0 8 [l0] [.int 601, v0] m Q := A_sipush hB_X0_init dX0_init_5 rfl
theorem dX0_init_8 : decode cX0_init 8 = .ok (.newarray .int, 2) := by decide +kernel
theorem tX0_init_8 {d : Nat} {l0 : Option Value} {v1 : Value} {x : Int32} {m : jmM} {Q : Option Value → jmM → Prop} : AW d 0 8 [l0] [.int x, v1] m Q ↔ (0 ≤ x.toInt ∧ x.toInt ≤ 100000) ∧ AW d 0 10 [l0] [.ref (mN m), v1] (jNew m 20 (jx x)) Q := A_newarray hB_X0_init dX0_init_8 rfl
theorem dX0_init_10 : decode cX0_init 10 = .ok (.putfield 9, 3) := by decide +kernel
theorem tX0_init_10 {d : Nat} {l0 : Option Value} {x a : Nat} {m : jmM} {Q : Option Value → jmM → Prop} : AW d 0 10 [l0] [.ref x, .ref a] m Q ↔ (mS m a).1 = 0 ∧ AW d 0 13 [l0] [] (cR m a (jup (mR m a) 0 (some x))) Q := A_putR hB_X0_init dX0_init_10 hO_X0_init fF_0_9 rfl (fun _ => ⟨rfl, rfl⟩)
theorem tX0_init_10q {d : Nat} {l0 : Option Value} {x : Option Nat} {a : Nat} {m : jmM} {Q : Option Value → jmM → Prop} : AW d 0 10 [l0] [va_rf x, .ref a] m Q ↔ (mS m a).1 = 0 ∧ AW d 0 13 [l0] [] (cR m a (jup (mR m a) 0 x)) Q := A_putQ hB_X0_init dX0_init_10 hO_X0_init fF_0_9 rfl (fun _ => ⟨rfl, rfl⟩)
theorem tX0_init_10n {d : Nat} {l0 : Option Value} {a : Nat} {m : jmM} {Q : Option Value → jmM → Prop} : AW d 0 10 [l0] [.null, .ref a] m Q ↔ (mS m a).1 = 0 ∧ AW d 0 13 [l0] [] (cR m a (jup (mR m a) 0 none)) Q := A_putQ (x := none) hB_X0_init dX0_init_10 hO_X0_init fF_0_9 rfl (fun _ => ⟨rfl, rfl⟩)
theorem dX0_init_13 : decode cX0_init 13 = .ok (.aload_n 0, 1) := by decide +kernel
theorem tX0_init_13 {d : Nat} {x : Nat} {m : jmM} {Q : Option Value → jmM → Prop} : AW d 0 13 [some (.ref x)] [] m Q ↔ AW d 0 14 [some (.ref x)] [.ref x] m Q := A_aload_n hB_X0_init dX0_init_13 rfl
theorem dX0_init_14 : decode cX0_init 14 = .ok (.sipush 601, 3) := by decide +kernel
theorem tX0_init_14 {d : Nat} {l0 : Option Value} {v0 : Value} {m : jmM} {Q : Option Value → jmM → Prop} : AW d 0 14 [l0] [v0] m Q ↔ AW d 0 17 [l0] [.int 601, v0] m Q := A_sipush hB_X0_init dX0_init_14 rfl
theorem dX0_init_17 : decode cX0_init 17 = .ok (.newarray .int, 2) := by decide +kernel
theorem tX0_init_17 {d : Nat} {l0 : Option Value} {v1 : Value} {x : Int32} {m : jmM} {Q : Option Value → jmM → Prop} : AW d 0 17 [l0] [.int x, v1] m Q ↔ (0 ≤ x.toInt ∧ x.toInt ≤ 100000) ∧ AW d 0 19 [l0] [.ref (mN m), v1] (jNew m 20 (jx x)) Q := A_newarray hB_X0_init dX0_init_17 rfl
theorem dX0_init_19 : decode cX0_init 19 = .ok (.putfield 15, 3) := by decide +kernel
theorem tX0_init_19 {d : Nat} {l0 : Option Value} {x a : Nat} {m : jmM} {Q : Option Value → jmM → Prop} : AW d 0 19 [l0] [.ref x, .ref a] m Q ↔ (mS m a).1 = 0 ∧ AW d 0 22 [l0] [] (cR m a (jup (mR m a) 1 (some x))) Q := A_putR hB_X0_init dX0_init_19 hO_X0_init fF_0_15 rfl (fun _ => ⟨rfl, rfl⟩)
theorem tX0_init_19q {d : Nat} {l0 : Option Value} {x : Option Nat} {a : Nat} {m : jmM} {Q : Option Value → jmM → Prop} : AW d 0 19 [l0] [va_rf x, .ref a] m Q ↔ (mS m a).1 = 0 ∧ AW d 0 22 [l0] [] (cR m a (jup (mR m a) 1 x)) Q := A_putQ hB_X0_init dX0_init_19 hO_X0_init fF_0_15 rfl (fun _ => ⟨rfl, rfl⟩)
theorem tX0_init_19n {d : Nat} {l0 : Option Value} {a : Nat} {m : jmM} {Q : Option Value → jmM → Prop} : AW d 0 19 [l0] [.null, .ref a] m Q ↔ (mS m a).1 = 0 ∧ AW d 0 22 [l0] [] (cR m a (jup (mR m a) 1 none)) Q := A_putQ (x := none) hB_X0_init dX0_init_19 hO_X0_init fF_0_15 rfl (fun _ => ⟨rfl, rfl⟩)
theorem dX0_init_22 : decode cX0_init 22 = .ok (.aload_n 0, 1) := by decide +kernel
theorem tX0_init_22 {d : Nat} {x : Nat} {m : jmM} {Q : Option Value → jmM → Prop} : AW d 0 22 [some (.ref x)] [] m Q ↔ AW d 0 23 [some (.ref x)] [.ref x] m Q := A_aload_n hB_X0_init dX0_init_22 rfl
theorem dX0_init_23 : decode cX0_init 23 = .ok (.sipush 601, 3) := by decide +kernel
theorem tX0_init_23 {d : Nat} {l0 : Option Value} {v0 : Value} {m : jmM} {Q : Option Value → jmM → Prop} : AW d 0 23 [l0] [v0] m Q ↔ AW d 0 26 [l0] [.int 601, v0] m Q := A_sipush hB_X0_init dX0_init_23 rfl
theorem dX0_init_26 : decode cX0_init 26 = .ok (.newarray .int, 2) := by decide +kernel
theorem tX0_init_26 {d : Nat} {l0 : Option Value} {v1 : Value} {x : Int32} {m : jmM} {Q : Option Value → jmM → Prop} : AW d 0 26 [l0] [.int x, v1] m Q ↔ (0 ≤ x.toInt ∧ x.toInt ≤ 100000) ∧ AW d 0 28 [l0] [.ref (mN m), v1] (jNew m 20 (jx x)) Q := A_newarray hB_X0_init dX0_init_26 rfl
theorem dX0_init_28 : decode cX0_init 28 = .ok (.putfield 18, 3) := by decide +kernel
theorem tX0_init_28 {d : Nat} {l0 : Option Value} {x a : Nat} {m : jmM} {Q : Option Value → jmM → Prop} : AW d 0 28 [l0] [.ref x, .ref a] m Q ↔ (mS m a).1 = 0 ∧ AW d 0 31 [l0] [] (cR m a (jup (mR m a) 2 (some x))) Q := A_putR hB_X0_init dX0_init_28 hO_X0_init fF_0_18 rfl (fun _ => ⟨rfl, rfl⟩)
theorem tX0_init_28q {d : Nat} {l0 : Option Value} {x : Option Nat} {a : Nat} {m : jmM} {Q : Option Value → jmM → Prop} : AW d 0 28 [l0] [va_rf x, .ref a] m Q ↔ (mS m a).1 = 0 ∧ AW d 0 31 [l0] [] (cR m a (jup (mR m a) 2 x)) Q := A_putQ hB_X0_init dX0_init_28 hO_X0_init fF_0_18 rfl (fun _ => ⟨rfl, rfl⟩)
theorem tX0_init_28n {d : Nat} {l0 : Option Value} {a : Nat} {m : jmM} {Q : Option Value → jmM → Prop} : AW d 0 28 [l0] [.null, .ref a] m Q ↔ (mS m a).1 = 0 ∧ AW d 0 31 [l0] [] (cR m a (jup (mR m a) 2 none)) Q := A_putQ (x := none) hB_X0_init dX0_init_28 hO_X0_init fF_0_18 rfl (fun _ => ⟨rfl, rfl⟩)
theorem dX0_init_31 : decode cX0_init 31 = .ok (.aload_n 0, 1) := by decide +kernel
theorem tX0_init_31 {d : Nat} {x : Nat} {m : jmM} {Q : Option Value → jmM → Prop} : AW d 0 31 [some (.ref x)] [] m Q ↔ AW d 0 32 [some (.ref x)] [.ref x] m Q := A_aload_n hB_X0_init dX0_init_31 rfl
theorem dX0_init_32 : decode cX0_init 32 = .ok (.sipush 601, 3) := by decide +kernel
theorem tX0_init_32 {d : Nat} {l0 : Option Value} {v0 : Value} {m : jmM} {Q : Option Value → jmM → Prop} : AW d 0 32 [l0] [v0] m Q ↔ AW d 0 35 [l0] [.int 601, v0] m Q := A_sipush hB_X0_init dX0_init_32 rfl
theorem dX0_init_35 : decode cX0_init 35 = .ok (.newarray .int, 2) := by decide +kernel
theorem tX0_init_35 {d : Nat} {l0 : Option Value} {v1 : Value} {x : Int32} {m : jmM} {Q : Option Value → jmM → Prop} : AW d 0 35 [l0] [.int x, v1] m Q ↔ (0 ≤ x.toInt ∧ x.toInt ≤ 100000) ∧ AW d 0 37 [l0] [.ref (mN m), v1] (jNew m 20 (jx x)) Q := A_newarray hB_X0_init dX0_init_35 rfl
theorem dX0_init_37 : decode cX0_init 37 = .ok (.putfield 21, 3) := by decide +kernel
theorem tX0_init_37 {d : Nat} {l0 : Option Value} {x a : Nat} {m : jmM} {Q : Option Value → jmM → Prop} : AW d 0 37 [l0] [.ref x, .ref a] m Q ↔ (mS m a).1 = 0 ∧ AW d 0 40 [l0] [] (cR m a (jup (mR m a) 3 (some x))) Q := A_putR hB_X0_init dX0_init_37 hO_X0_init fF_0_21 rfl (fun _ => ⟨rfl, rfl⟩)
theorem tX0_init_37q {d : Nat} {l0 : Option Value} {x : Option Nat} {a : Nat} {m : jmM} {Q : Option Value → jmM → Prop} : AW d 0 37 [l0] [va_rf x, .ref a] m Q ↔ (mS m a).1 = 0 ∧ AW d 0 40 [l0] [] (cR m a (jup (mR m a) 3 x)) Q := A_putQ hB_X0_init dX0_init_37 hO_X0_init fF_0_21 rfl (fun _ => ⟨rfl, rfl⟩)
theorem tX0_init_37n {d : Nat} {l0 : Option Value} {a : Nat} {m : jmM} {Q : Option Value → jmM → Prop} : AW d 0 37 [l0] [.null, .ref a] m Q ↔ (mS m a).1 = 0 ∧ AW d 0 40 [l0] [] (cR m a (jup (mR m a) 3 none)) Q := A_putQ (x := none) hB_X0_init dX0_init_37 hO_X0_init fF_0_21 rfl (fun _ => ⟨rfl, rfl⟩)
theorem dX0_init_40 : decode cX0_init 40 = .ok (.aload_n 0, 1) := by decide +kernel
theorem tX0_init_40 {d : Nat} {x : Nat} {m : jmM} {Q : Option Value → jmM → Prop} : AW d 0 40 [some (.ref x)] [] m Q ↔ AW d 0 41 [some (.ref x)] [.ref x] m Q := A_aload_n hB_X0_init dX0_init_40 rfl
theorem dX0_init_41 : decode cX0_init 41 = .ok (.bipush 8, 2) := by decide +kernel
theorem tX0_init_41 {d : Nat} {l0 : Option Value} {v0 : Value} {m : jmM} {Q : Option Value → jmM → Prop} : AW d 0 41 [l0] [v0] m Q ↔ AW d 0 43 [l0] [.int 8, v0] m Q := A_bipush hB_X0_init dX0_init_41 rfl
theorem dX0_init_43 : decode cX0_init 43 = .ok (.newarray .int, 2) := by decide +kernel
theorem tX0_init_43 {d : Nat} {l0 : Option Value} {v1 : Value} {x : Int32} {m : jmM} {Q : Option Value → jmM → Prop} : AW d 0 43 [l0] [.int x, v1] m Q ↔ (0 ≤ x.toInt ∧ x.toInt ≤ 100000) ∧ AW d 0 45 [l0] [.ref (mN m), v1] (jNew m 20 (jx x)) Q := A_newarray hB_X0_init dX0_init_43 rfl
theorem dX0_init_45 : decode cX0_init 45 = .ok (.putfield 24, 3) := by decide +kernel
theorem tX0_init_45 {d : Nat} {l0 : Option Value} {x a : Nat} {m : jmM} {Q : Option Value → jmM → Prop} : AW d 0 45 [l0] [.ref x, .ref a] m Q ↔ (mS m a).1 = 0 ∧ AW d 0 48 [l0] [] (cR m a (jup (mR m a) 4 (some x))) Q := A_putR hB_X0_init dX0_init_45 hO_X0_init fF_0_24 rfl (fun _ => ⟨rfl, rfl⟩)
theorem tX0_init_45q {d : Nat} {l0 : Option Value} {x : Option Nat} {a : Nat} {m : jmM} {Q : Option Value → jmM → Prop} : AW d 0 45 [l0] [va_rf x, .ref a] m Q ↔ (mS m a).1 = 0 ∧ AW d 0 48 [l0] [] (cR m a (jup (mR m a) 4 x)) Q := A_putQ hB_X0_init dX0_init_45 hO_X0_init fF_0_24 rfl (fun _ => ⟨rfl, rfl⟩)
theorem tX0_init_45n {d : Nat} {l0 : Option Value} {a : Nat} {m : jmM} {Q : Option Value → jmM → Prop} : AW d 0 45 [l0] [.null, .ref a] m Q ↔ (mS m a).1 = 0 ∧ AW d 0 48 [l0] [] (cR m a (jup (mR m a) 4 none)) Q := A_putQ (x := none) hB_X0_init dX0_init_45 hO_X0_init fF_0_24 rfl (fun _ => ⟨rfl, rfl⟩)
theorem dX0_init_48 : decode cX0_init 48 = .ok (.aload_n 0, 1) := by decide +kernel
theorem tX0_init_48 {d : Nat} {x : Nat} {m : jmM} {Q : Option Value → jmM → Prop} : AW d 0 48 [some (.ref x)] [] m Q ↔ AW d 0 49 [some (.ref x)] [.ref x] m Q := A_aload_n hB_X0_init dX0_init_48 rfl
theorem dX0_init_49 : decode cX0_init 49 = .ok (.iconst 0, 1) := by decide +kernel
theorem tX0_init_49 {d : Nat} {l0 : Option Value} {v0 : Value} {m : jmM} {Q : Option Value → jmM → Prop} : AW d 0 49 [l0] [v0] m Q ↔ AW d 0 50 [l0] [.int 0, v0] m Q := A_iconst hB_X0_init dX0_init_49 (by decide)
theorem dX0_init_50 : decode cX0_init 50 = .ok (.putfield 27, 3) := by decide +kernel
theorem tX0_init_50 {d : Nat} {l0 : Option Value} {x : Int32} {a : Nat} {m : jmM} {Q : Option Value → jmM → Prop} : AW d 0 50 [l0] [.int x, .ref a] m Q ↔ (mS m a).1 = 0 ∧ AW d 0 53 [l0] [] (cI m a (jup (mI m a) 5 x)) Q := A_putI hB_X0_init dX0_init_50 hO_X0_init fF_0_27 rfl (fun h => Bool.noConfusion h)
theorem dX0_init_53 : decode cX0_init 53 = .ok (.return_, 1) := by decide +kernel
theorem tX0_init_53 {d : Nat} {l0 : Option Value} {m : jmM} {Q : Option Value → jmM → Prop} : AW d 0 53 [l0] [] m Q ↔ Q none m := A_return hB_X0_init dX0_init_53 hR_X0_init
theorem hB_X0_lay : jB 1 = cX0_lay := rfl
theorem hO_X0_lay : jO 1 = 0 := rfl
theorem hR_X0_lay : jRt 1 = none := rfl
theorem nX0_lay (d : Nat) (x0 : Nat) (x1 : Nat) (x2 : Int32) (x3 : Nat) (x4 : Int32) (m : jmM) (Q : Option Value → jmM → Prop) : CC (d + 1) 1 [.ref x0, .ref x1, .int x2, .ref x3, .int x4] m Q ↔ AW d 1 0 [some (.ref x0), some (.ref x1), some (.int x2), some (.ref x3), some (.int x4), none, none, none, none] [] m Q := CC_body (Nat.le_of_ble_eq_true rfl)
theorem dX0_lay_0 : decode cX0_lay 0 = .ok (.aload_n 0, 1) := by decide +kernel
theorem tX0_lay_0 {d : Nat} {l1 l2 l3 l4 l5 l6 l7 l8 : Option Value} {x : Nat} {m : jmM} {Q : Option Value → jmM → Prop} : AW d 1 0 [some (.ref x), l1, l2, l3, l4, l5, l6, l7, l8] [] m Q ↔ AW d 1 1 [some (.ref x), l1, l2, l3, l4, l5, l6, l7, l8] [.ref x] m Q := A_aload_n hB_X0_lay dX0_lay_0 rfl
theorem dX0_lay_1 : decode cX0_lay 1 = .ok (.aload_n 1, 1) := by decide +kernel
theorem tX0_lay_1 {d : Nat} {l0 l2 l3 l4 l5 l6 l7 l8 : Option Value} {v0 : Value} {x : Nat} {m : jmM} {Q : Option Value → jmM → Prop} : AW d 1 1 [l0, some (.ref x), l2, l3, l4, l5, l6, l7, l8] [v0] m Q ↔ AW d 1 2 [l0, some (.ref x), l2, l3, l4, l5, l6, l7, l8] [.ref x, v0] m Q := A_aload_n hB_X0_lay dX0_lay_1 rfl
theorem dX0_lay_2 : decode cX0_lay 2 = .ok (.invokevirtual 31, 3) := by decide +kernel
theorem tX0_lay_2 {d : Nat} {l0 l1 l2 l3 l4 l5 l6 l7 l8 : Option Value} {v1 : Value} {a : Nat} {m : jmM} {Q : Option Value → jmM → Prop} : AW d 1 2 [l0, l1, l2, l3, l4, l5, l6, l7, l8] [.ref a, v1] m Q ↔ (mS m a).1 = 5 ∧ CC d 74 [.ref a] m (jK d 1 5 [l0, l1, l2, l3, l4, l5, l6, l7, l8] [v1] Q) := A_callV hB_X0_lay dX0_lay_2 hO_X0_lay fS_0_31 ⟨Nat.le_of_ble_eq_true rfl, Nat.le_of_ble_eq_true rfl⟩ rfl rfl rfl
theorem dX0_lay_5 : decode cX0_lay 5 = .ok (.sipush 600, 3) := by decide +kernel
theorem tX0_lay_5 {d : Nat} {l0 l1 l2 l3 l4 l5 l6 l7 l8 : Option Value} {v0 v1 : Value} {m : jmM} {Q : Option Value → jmM → Prop} : AW d 1 5 [l0, l1, l2, l3, l4, l5, l6, l7, l8] [v0, v1] m Q ↔ AW d 1 8 [l0, l1, l2, l3, l4, l5, l6, l7, l8] [.int 600, v0, v1] m Q := A_sipush hB_X0_lay dX0_lay_5 rfl
theorem dX0_lay_8 : decode cX0_lay 8 = .ok (.invokestatic 36, 3) := by decide +kernel
theorem tX0_lay_8 {d : Nat} {l0 l1 l2 l3 l4 l5 l6 l7 l8 : Option Value} {v2 : Value} {x y : Int32} {m : jmM} {Q : Option Value → jmM → Prop} : AW d 1 8 [l0, l1, l2, l3, l4, l5, l6, l7, l8] [.int y, .int x, v2] m Q ↔ AW d 1 11 [l0, l1, l2, l3, l4, l5, l6, l7, l8] [.int (if y < x then y else x), v2] m Q := A_min hB_X0_lay dX0_lay_8 hO_X0_lay fS_0_36 (Nat.le_of_ble_eq_true rfl)
theorem dX0_lay_11 : decode cX0_lay 11 = .ok (.putfield 27, 3) := by decide +kernel
theorem tX0_lay_11 {d : Nat} {l0 l1 l2 l3 l4 l5 l6 l7 l8 : Option Value} {x : Int32} {a : Nat} {m : jmM} {Q : Option Value → jmM → Prop} : AW d 1 11 [l0, l1, l2, l3, l4, l5, l6, l7, l8] [.int x, .ref a] m Q ↔ (mS m a).1 = 0 ∧ AW d 1 14 [l0, l1, l2, l3, l4, l5, l6, l7, l8] [] (cI m a (jup (mI m a) 5 x)) Q := A_putI hB_X0_lay dX0_lay_11 hO_X0_lay fF_0_27 rfl (fun h => Bool.noConfusion h)
theorem dX0_lay_14 : decode cX0_lay 14 = .ok (.iconst 0, 1) := by decide +kernel
theorem tX0_lay_14 {d : Nat} {l0 l1 l2 l3 l4 l5 l6 l7 l8 : Option Value} {m : jmM} {Q : Option Value → jmM → Prop} : AW d 1 14 [l0, l1, l2, l3, l4, l5, l6, l7, l8] [] m Q ↔ AW d 1 15 [l0, l1, l2, l3, l4, l5, l6, l7, l8] [.int 0] m Q := A_iconst hB_X0_lay dX0_lay_14 (by decide)
theorem dX0_lay_15 : decode cX0_lay 15 = .ok (.istore 5, 2) := by decide +kernel
theorem tX0_lay_15 {d : Nat} {l0 l1 l2 l3 l4 l5 l6 l7 l8 : Option Value} {x : Int32} {m : jmM} {Q : Option Value → jmM → Prop} : AW d 1 15 [l0, l1, l2, l3, l4, l5, l6, l7, l8] [.int x] m Q ↔ AW d 1 17 [l0, l1, l2, l3, jc1 l4, some (.int x), l6, l7, l8] [] m Q := A_istore hB_X0_lay dX0_lay_15 (Nat.le_of_ble_eq_true rfl) rfl
theorem dX0_lay_17 : decode cX0_lay 17 = .ok (.iload 5, 2) := by decide +kernel
theorem tX0_lay_17 {d : Nat} {l0 l1 l2 l3 l4 l6 l7 l8 : Option Value} {x : Int32} {m : jmM} {Q : Option Value → jmM → Prop} : AW d 1 17 [l0, l1, l2, l3, l4, some (.int x), l6, l7, l8] [] m Q ↔ AW d 1 19 [l0, l1, l2, l3, l4, some (.int x), l6, l7, l8] [.int x] m Q := A_iload hB_X0_lay dX0_lay_17 rfl
theorem dX0_lay_19 : decode cX0_lay 19 = .ok (.aload_n 0, 1) := by decide +kernel
theorem tX0_lay_19 {d : Nat} {l1 l2 l3 l4 l5 l6 l7 l8 : Option Value} {v0 : Value} {x : Nat} {m : jmM} {Q : Option Value → jmM → Prop} : AW d 1 19 [some (.ref x), l1, l2, l3, l4, l5, l6, l7, l8] [v0] m Q ↔ AW d 1 20 [some (.ref x), l1, l2, l3, l4, l5, l6, l7, l8] [.ref x, v0] m Q := A_aload_n hB_X0_lay dX0_lay_19 rfl
theorem dX0_lay_20 : decode cX0_lay 20 = .ok (.getfield 27, 3) := by decide +kernel
theorem tX0_lay_20 {d : Nat} {l0 l1 l2 l3 l4 l5 l6 l7 l8 : Option Value} {v1 : Value} {a : Nat} {m : jmM} {Q : Option Value → jmM → Prop} : AW d 1 20 [l0, l1, l2, l3, l4, l5, l6, l7, l8] [.ref a, v1] m Q ↔ (mS m a).1 = 0 ∧ AW d 1 23 [l0, l1, l2, l3, l4, l5, l6, l7, l8] [.int (mI m a 5), v1] m Q := A_getfield (f := fun m a => .int (mI m a 5)) hB_X0_lay dX0_lay_20 hO_X0_lay fF_0_27 rfl
theorem dX0_lay_23 : decode cX0_lay 23 = .ok (.if_icmp .ge 32, 3) := by decide +kernel
theorem tX0_lay_23 {d : Nat} {l0 l1 l2 l3 l4 l5 l6 l7 l8 : Option Value} {x y : Int32} {m : jmM} {Q : Option Value → jmM → Prop} : AW d 1 23 [l0, l1, l2, l3, l4, l5, l6, l7, l8] [.int y, .int x] m Q ↔ if y ≤ x then AW d 1 55 [l0, l1, l2, l3, l4, l5, l6, l7, l8] [] m Q else AW d 1 26 [l0, l1, l2, l3, l4, l5, l6, l7, l8] [] m Q := A_icmp_ge hB_X0_lay dX0_lay_23 (by decide)
theorem dX0_lay_26 : decode cX0_lay 26 = .ok (.aload_n 0, 1) := by decide +kernel
theorem tX0_lay_26 {d : Nat} {l1 l2 l3 l4 l5 l6 l7 l8 : Option Value} {x : Nat} {m : jmM} {Q : Option Value → jmM → Prop} : AW d 1 26 [some (.ref x), l1, l2, l3, l4, l5, l6, l7, l8] [] m Q ↔ AW d 1 27 [some (.ref x), l1, l2, l3, l4, l5, l6, l7, l8] [.ref x] m Q := A_aload_n hB_X0_lay dX0_lay_26 rfl
theorem dX0_lay_27 : decode cX0_lay 27 = .ok (.getfield 21, 3) := by decide +kernel
theorem tX0_lay_27 {d : Nat} {l0 l1 l2 l3 l4 l5 l6 l7 l8 : Option Value} {a : Nat} {m : jmM} {Q : Option Value → jmM → Prop} : AW d 1 27 [l0, l1, l2, l3, l4, l5, l6, l7, l8] [.ref a] m Q ↔ (mS m a).1 = 0 ∧ AW d 1 30 [l0, l1, l2, l3, l4, l5, l6, l7, l8] [va_rf (mR m a 3)] m Q := A_getfield (f := fun m a => va_rf (mR m a 3)) hB_X0_lay dX0_lay_27 hO_X0_lay fF_0_21 rfl
theorem dX0_lay_30 : decode cX0_lay 30 = .ok (.iload 5, 2) := by decide +kernel
theorem tX0_lay_30 {d : Nat} {l0 l1 l2 l3 l4 l6 l7 l8 : Option Value} {v0 : Value} {x : Int32} {m : jmM} {Q : Option Value → jmM → Prop} : AW d 1 30 [l0, l1, l2, l3, l4, some (.int x), l6, l7, l8] [v0] m Q ↔ AW d 1 32 [l0, l1, l2, l3, l4, some (.int x), l6, l7, l8] [.int x, v0] m Q := A_iload hB_X0_lay dX0_lay_30 rfl
theorem dX0_lay_32 : decode cX0_lay 32 = .ok (.iconst 1, 1) := by decide +kernel
theorem tX0_lay_32 {d : Nat} {l0 l1 l2 l3 l4 l5 l6 l7 l8 : Option Value} {v0 v1 : Value} {m : jmM} {Q : Option Value → jmM → Prop} : AW d 1 32 [l0, l1, l2, l3, l4, l5, l6, l7, l8] [v0, v1] m Q ↔ AW d 1 33 [l0, l1, l2, l3, l4, l5, l6, l7, l8] [.int 1, v0, v1] m Q := A_iconst hB_X0_lay dX0_lay_32 (by decide)
theorem dX0_lay_33 : decode cX0_lay 33 = .ok (.iadd, 1) := by decide +kernel
theorem tX0_lay_33 {d : Nat} {l0 l1 l2 l3 l4 l5 l6 l7 l8 : Option Value} {v2 : Value} {x y : Int32} {m : jmM} {Q : Option Value → jmM → Prop} : AW d 1 33 [l0, l1, l2, l3, l4, l5, l6, l7, l8] [.int y, .int x, v2] m Q ↔ AW d 1 34 [l0, l1, l2, l3, l4, l5, l6, l7, l8] [.int (x + y), v2] m Q := A_iadd hB_X0_lay dX0_lay_33
theorem dX0_lay_34 : decode cX0_lay 34 = .ok (.aload_n 0, 1) := by decide +kernel
theorem tX0_lay_34 {d : Nat} {l1 l2 l3 l4 l5 l6 l7 l8 : Option Value} {v0 v1 : Value} {x : Nat} {m : jmM} {Q : Option Value → jmM → Prop} : AW d 1 34 [some (.ref x), l1, l2, l3, l4, l5, l6, l7, l8] [v0, v1] m Q ↔ AW d 1 35 [some (.ref x), l1, l2, l3, l4, l5, l6, l7, l8] [.ref x, v0, v1] m Q := A_aload_n hB_X0_lay dX0_lay_34 rfl
theorem dX0_lay_35 : decode cX0_lay 35 = .ok (.getfield 21, 3) := by decide +kernel
theorem tX0_lay_35 {d : Nat} {l0 l1 l2 l3 l4 l5 l6 l7 l8 : Option Value} {v1 v2 : Value} {a : Nat} {m : jmM} {Q : Option Value → jmM → Prop} : AW d 1 35 [l0, l1, l2, l3, l4, l5, l6, l7, l8] [.ref a, v1, v2] m Q ↔ (mS m a).1 = 0 ∧ AW d 1 38 [l0, l1, l2, l3, l4, l5, l6, l7, l8] [va_rf (mR m a 3), v1, v2] m Q := A_getfield (f := fun m a => va_rf (mR m a 3)) hB_X0_lay dX0_lay_35 hO_X0_lay fF_0_21 rfl
theorem dX0_lay_38 : decode cX0_lay 38 = .ok (.iload 5, 2) := by decide +kernel
theorem tX0_lay_38 {d : Nat} {l0 l1 l2 l3 l4 l6 l7 l8 : Option Value} {v0 v1 v2 : Value} {x : Int32} {m : jmM} {Q : Option Value → jmM → Prop} : AW d 1 38 [l0, l1, l2, l3, l4, some (.int x), l6, l7, l8] [v0, v1, v2] m Q ↔ AW d 1 40 [l0, l1, l2, l3, l4, some (.int x), l6, l7, l8] [.int x, v0, v1, v2] m Q := A_iload hB_X0_lay dX0_lay_38 rfl
theorem dX0_lay_40 : decode cX0_lay 40 = .ok (.iaload, 1) := by decide +kernel
theorem tX0_lay_40 {d : Nat} {l0 l1 l2 l3 l4 l5 l6 l7 l8 : Option Value} {v2 v3 : Value} {i : Int32} {a : Nat} {m : jmM} {Q : Option Value → jmM → Prop} : AW d 1 40 [l0, l1, l2, l3, l4, l5, l6, l7, l8] [.int i, .ref a, v2, v3] m Q ↔ (((mS m a).1 = 20 ∨ a = jScr) ∧ jIx i (mS m a).2) ∧ AW d 1 41 [l0, l1, l2, l3, l4, l5, l6, l7, l8] [.int (mI m a (jx i)), v2, v3] m Q := A_iaload hB_X0_lay dX0_lay_40
theorem dX0_lay_41 : decode cX0_lay 41 = .ok (.aload_n 1, 1) := by decide +kernel
theorem tX0_lay_41 {d : Nat} {l0 l2 l3 l4 l5 l6 l7 l8 : Option Value} {v0 v1 v2 : Value} {x : Nat} {m : jmM} {Q : Option Value → jmM → Prop} : AW d 1 41 [l0, some (.ref x), l2, l3, l4, l5, l6, l7, l8] [v0, v1, v2] m Q ↔ AW d 1 42 [l0, some (.ref x), l2, l3, l4, l5, l6, l7, l8] [.ref x, v0, v1, v2] m Q := A_aload_n hB_X0_lay dX0_lay_41 rfl
theorem dX0_lay_42 : decode cX0_lay 42 = .ok (.iload 5, 2) := by decide +kernel
theorem tX0_lay_42 {d : Nat} {l0 l1 l2 l3 l4 l6 l7 l8 : Option Value} {v0 v1 v2 v3 : Value} {x : Int32} {m : jmM} {Q : Option Value → jmM → Prop} : AW d 1 42 [l0, l1, l2, l3, l4, some (.int x), l6, l7, l8] [v0, v1, v2, v3] m Q ↔ AW d 1 44 [l0, l1, l2, l3, l4, some (.int x), l6, l7, l8] [.int x, v0, v1, v2, v3] m Q := A_iload hB_X0_lay dX0_lay_42 rfl
theorem dX0_lay_44 : decode cX0_lay 44 = .ok (.invokevirtual 42, 3) := by decide +kernel
theorem tX0_lay_44 {d : Nat} {l0 l1 l2 l3 l4 l5 l6 l7 l8 : Option Value} {v2 v3 v4 : Value} {y0 : Value} {a : Nat} {m : jmM} {Q : Option Value → jmM → Prop} : AW d 1 44 [l0, l1, l2, l3, l4, l5, l6, l7, l8] [y0, .ref a, v2, v3, v4] m Q ↔ (mS m a).1 = 5 ∧ CC d 83 [.ref a, y0] m (jK d 1 47 [l0, l1, l2, l3, l4, l5, l6, l7, l8] [v2, v3, v4] Q) := A_callV hB_X0_lay dX0_lay_44 hO_X0_lay fS_0_42 ⟨Nat.le_of_ble_eq_true rfl, Nat.le_of_ble_eq_true rfl⟩ rfl rfl rfl
theorem dX0_lay_47 : decode cX0_lay 47 = .ok (.iadd, 1) := by decide +kernel
theorem tX0_lay_47 {d : Nat} {l0 l1 l2 l3 l4 l5 l6 l7 l8 : Option Value} {v2 v3 : Value} {x y : Int32} {m : jmM} {Q : Option Value → jmM → Prop} : AW d 1 47 [l0, l1, l2, l3, l4, l5, l6, l7, l8] [.int y, .int x, v2, v3] m Q ↔ AW d 1 48 [l0, l1, l2, l3, l4, l5, l6, l7, l8] [.int (x + y), v2, v3] m Q := A_iadd hB_X0_lay dX0_lay_47
theorem dX0_lay_48 : decode cX0_lay 48 = .ok (.iastore, 1) := by decide +kernel
theorem tX0_lay_48 {d : Nat} {l0 l1 l2 l3 l4 l5 l6 l7 l8 : Option Value} {x i : Int32} {a : Nat} {m : jmM} {Q : Option Value → jmM → Prop} : AW d 1 48 [l0, l1, l2, l3, l4, l5, l6, l7, l8] [.int x, .int i, .ref a] m Q ↔ ((mS m a).1 = 20 ∧ jIx i (mS m a).2) ∧ AW d 1 49 [l0, l1, l2, l3, l4, l5, l6, l7, l8] [] (cI m a (jup (mI m a) (jx i) x)) Q := A_iastore hB_X0_lay dX0_lay_48
theorem dX0_lay_49 : decode cX0_lay 49 = .ok (.iinc 5 1, 3) := by decide +kernel
theorem tX0_lay_49 {d : Nat} {l0 l1 l2 l3 l4 l6 l7 l8 : Option Value} {x : Int32} {m : jmM} {Q : Option Value → jmM → Prop} : AW d 1 49 [l0, l1, l2, l3, l4, some (.int x), l6, l7, l8] [] m Q ↔ AW d 1 52 [l0, l1, l2, l3, jc1 l4, some (.int (x + 1)), l6, l7, l8] [] m Q := A_iinc hB_X0_lay dX0_lay_49 rfl (Nat.le_of_ble_eq_true rfl) (v := 1) (by decide) rfl
theorem dX0_lay_52 : decode cX0_lay 52 = .ok (.goto (-35), 3) := by decide +kernel
theorem tX0_lay_52 {d : Nat} {l0 l1 l2 l3 l4 l5 l6 l7 l8 : Option Value} {m : jmM} {Q : Option Value → jmM → Prop} : AW d 1 52 [l0, l1, l2, l3, l4, l5, l6, l7, l8] [] m Q ↔ AW d 1 17 [l0, l1, l2, l3, l4, l5, l6, l7, l8] [] m Q := A_goto hB_X0_lay dX0_lay_52 (by decide)
theorem dX0_lay_55 : decode cX0_lay 55 = .ok (.iconst 0, 1) := by decide +kernel
theorem tX0_lay_55 {d : Nat} {l0 l1 l2 l3 l4 l5 l6 l7 l8 : Option Value} {m : jmM} {Q : Option Value → jmM → Prop} : AW d 1 55 [l0, l1, l2, l3, l4, l5, l6, l7, l8] [] m Q ↔ AW d 1 56 [l0, l1, l2, l3, l4, l5, l6, l7, l8] [.int 0] m Q := A_iconst hB_X0_lay dX0_lay_55 (by decide)
theorem dX0_lay_56 : decode cX0_lay 56 = .ok (.istore 5, 2) := by decide +kernel
theorem tX0_lay_56 {d : Nat} {l0 l1 l2 l3 l4 l5 l6 l7 l8 : Option Value} {x : Int32} {m : jmM} {Q : Option Value → jmM → Prop} : AW d 1 56 [l0, l1, l2, l3, l4, l5, l6, l7, l8] [.int x] m Q ↔ AW d 1 58 [l0, l1, l2, l3, jc1 l4, some (.int x), l6, l7, l8] [] m Q := A_istore hB_X0_lay dX0_lay_56 (Nat.le_of_ble_eq_true rfl) rfl
theorem dX0_lay_58 : decode cX0_lay 58 = .ok (.iload 5, 2) := by decide +kernel
theorem tX0_lay_58 {d : Nat} {l0 l1 l2 l3 l4 l6 l7 l8 : Option Value} {x : Int32} {m : jmM} {Q : Option Value → jmM → Prop} : AW d 1 58 [l0, l1, l2, l3, l4, some (.int x), l6, l7, l8] [] m Q ↔ AW d 1 60 [l0, l1, l2, l3, l4, some (.int x), l6, l7, l8] [.int x] m Q := A_iload hB_X0_lay dX0_lay_58 rfl
theorem dX0_lay_60 : decode cX0_lay 60 = .ok (.bipush 8, 2) := by decide +kernel
theorem tX0_lay_60 {d : Nat} {l0 l1 l2 l3 l4 l5 l6 l7 l8 : Option Value} {v0 : Value} {m : jmM} {Q : Option Value → jmM → Prop} : AW d 1 60 [l0, l1, l2, l3, l4, l5, l6, l7, l8] [v0] m Q ↔ AW d 1 62 [l0, l1, l2, l3, l4, l5, l6, l7, l8] [.int 8, v0] m Q := A_bipush hB_X0_lay dX0_lay_60 rfl
theorem dX0_lay_62 : decode cX0_lay 62 = .ok (.if_icmp .ge 20, 3) := by decide +kernel
theorem tX0_lay_62 {d : Nat} {l0 l1 l2 l3 l4 l5 l6 l7 l8 : Option Value} {x y : Int32} {m : jmM} {Q : Option Value → jmM → Prop} : AW d 1 62 [l0, l1, l2, l3, l4, l5, l6, l7, l8] [.int y, .int x] m Q ↔ if y ≤ x then AW d 1 82 [l0, l1, l2, l3, l4, l5, l6, l7, l8] [] m Q else AW d 1 65 [l0, l1, l2, l3, l4, l5, l6, l7, l8] [] m Q := A_icmp_ge hB_X0_lay dX0_lay_62 (by decide)
theorem dX0_lay_65 : decode cX0_lay 65 = .ok (.aload_n 0, 1) := by decide +kernel
theorem tX0_lay_65 {d : Nat} {l1 l2 l3 l4 l5 l6 l7 l8 : Option Value} {x : Nat} {m : jmM} {Q : Option Value → jmM → Prop} : AW d 1 65 [some (.ref x), l1, l2, l3, l4, l5, l6, l7, l8] [] m Q ↔ AW d 1 66 [some (.ref x), l1, l2, l3, l4, l5, l6, l7, l8] [.ref x] m Q := A_aload_n hB_X0_lay dX0_lay_65 rfl
theorem dX0_lay_66 : decode cX0_lay 66 = .ok (.getfield 24, 3) := by decide +kernel
theorem tX0_lay_66 {d : Nat} {l0 l1 l2 l3 l4 l5 l6 l7 l8 : Option Value} {a : Nat} {m : jmM} {Q : Option Value → jmM → Prop} : AW d 1 66 [l0, l1, l2, l3, l4, l5, l6, l7, l8] [.ref a] m Q ↔ (mS m a).1 = 0 ∧ AW d 1 69 [l0, l1, l2, l3, l4, l5, l6, l7, l8] [va_rf (mR m a 4)] m Q := A_getfield (f := fun m a => va_rf (mR m a 4)) hB_X0_lay dX0_lay_66 hO_X0_lay fF_0_24 rfl
theorem dX0_lay_69 : decode cX0_lay 69 = .ok (.iload 5, 2) := by decide +kernel
theorem tX0_lay_69 {d : Nat} {l0 l1 l2 l3 l4 l6 l7 l8 : Option Value} {v0 : Value} {x : Int32} {m : jmM} {Q : Option Value → jmM → Prop} : AW d 1 69 [l0, l1, l2, l3, l4, some (.int x), l6, l7, l8] [v0] m Q ↔ AW d 1 71 [l0, l1, l2, l3, l4, some (.int x), l6, l7, l8] [.int x, v0] m Q := A_iload hB_X0_lay dX0_lay_69 rfl
theorem dX0_lay_71 : decode cX0_lay 71 = .ok (.aload_n 0, 1) := by decide +kernel
theorem tX0_lay_71 {d : Nat} {l1 l2 l3 l4 l5 l6 l7 l8 : Option Value} {v0 v1 : Value} {x : Nat} {m : jmM} {Q : Option Value → jmM → Prop} : AW d 1 71 [some (.ref x), l1, l2, l3, l4, l5, l6, l7, l8] [v0, v1] m Q ↔ AW d 1 72 [some (.ref x), l1, l2, l3, l4, l5, l6, l7, l8] [.ref x, v0, v1] m Q := A_aload_n hB_X0_lay dX0_lay_71 rfl
theorem dX0_lay_72 : decode cX0_lay 72 = .ok (.getfield 27, 3) := by decide +kernel
theorem tX0_lay_72 {d : Nat} {l0 l1 l2 l3 l4 l5 l6 l7 l8 : Option Value} {v1 v2 : Value} {a : Nat} {m : jmM} {Q : Option Value → jmM → Prop} : AW d 1 72 [l0, l1, l2, l3, l4, l5, l6, l7, l8] [.ref a, v1, v2] m Q ↔ (mS m a).1 = 0 ∧ AW d 1 75 [l0, l1, l2, l3, l4, l5, l6, l7, l8] [.int (mI m a 5), v1, v2] m Q := A_getfield (f := fun m a => .int (mI m a 5)) hB_X0_lay dX0_lay_72 hO_X0_lay fF_0_27 rfl
theorem dX0_lay_75 : decode cX0_lay 75 = .ok (.iastore, 1) := by decide +kernel
theorem tX0_lay_75 {d : Nat} {l0 l1 l2 l3 l4 l5 l6 l7 l8 : Option Value} {x i : Int32} {a : Nat} {m : jmM} {Q : Option Value → jmM → Prop} : AW d 1 75 [l0, l1, l2, l3, l4, l5, l6, l7, l8] [.int x, .int i, .ref a] m Q ↔ ((mS m a).1 = 20 ∧ jIx i (mS m a).2) ∧ AW d 1 76 [l0, l1, l2, l3, l4, l5, l6, l7, l8] [] (cI m a (jup (mI m a) (jx i) x)) Q := A_iastore hB_X0_lay dX0_lay_75
theorem dX0_lay_76 : decode cX0_lay 76 = .ok (.iinc 5 1, 3) := by decide +kernel
theorem tX0_lay_76 {d : Nat} {l0 l1 l2 l3 l4 l6 l7 l8 : Option Value} {x : Int32} {m : jmM} {Q : Option Value → jmM → Prop} : AW d 1 76 [l0, l1, l2, l3, l4, some (.int x), l6, l7, l8] [] m Q ↔ AW d 1 79 [l0, l1, l2, l3, jc1 l4, some (.int (x + 1)), l6, l7, l8] [] m Q := A_iinc hB_X0_lay dX0_lay_76 rfl (Nat.le_of_ble_eq_true rfl) (v := 1) (by decide) rfl
theorem dX0_lay_79 : decode cX0_lay 79 = .ok (.goto (-21), 3) := by decide +kernel
theorem tX0_lay_79 {d : Nat} {l0 l1 l2 l3 l4 l5 l6 l7 l8 : Option Value} {m : jmM} {Q : Option Value → jmM → Prop} : AW d 1 79 [l0, l1, l2, l3, l4, l5, l6, l7, l8] [] m Q ↔ AW d 1 58 [l0, l1, l2, l3, l4, l5, l6, l7, l8] [] m Q := A_goto hB_X0_lay dX0_lay_79 (by decide)
theorem dX0_lay_82 : decode cX0_lay 82 = .ok (.aload_n 0, 1) := by decide +kernel
theorem tX0_lay_82 {d : Nat} {l1 l2 l3 l4 l5 l6 l7 l8 : Option Value} {x : Nat} {m : jmM} {Q : Option Value → jmM → Prop} : AW d 1 82 [some (.ref x), l1, l2, l3, l4, l5, l6, l7, l8] [] m Q ↔ AW d 1 83 [some (.ref x), l1, l2, l3, l4, l5, l6, l7, l8] [.ref x] m Q := A_aload_n hB_X0_lay dX0_lay_82 rfl
theorem dX0_lay_83 : decode cX0_lay 83 = .ok (.getfield 9, 3) := by decide +kernel
theorem tX0_lay_83 {d : Nat} {l0 l1 l2 l3 l4 l5 l6 l7 l8 : Option Value} {a : Nat} {m : jmM} {Q : Option Value → jmM → Prop} : AW d 1 83 [l0, l1, l2, l3, l4, l5, l6, l7, l8] [.ref a] m Q ↔ (mS m a).1 = 0 ∧ AW d 1 86 [l0, l1, l2, l3, l4, l5, l6, l7, l8] [va_rf (mR m a 0)] m Q := A_getfield (f := fun m a => va_rf (mR m a 0)) hB_X0_lay dX0_lay_83 hO_X0_lay fF_0_9 rfl
theorem dX0_lay_86 : decode cX0_lay 86 = .ok (.aload_n 0, 1) := by decide +kernel
theorem tX0_lay_86 {d : Nat} {l1 l2 l3 l4 l5 l6 l7 l8 : Option Value} {v0 : Value} {x : Nat} {m : jmM} {Q : Option Value → jmM → Prop} : AW d 1 86 [some (.ref x), l1, l2, l3, l4, l5, l6, l7, l8] [v0] m Q ↔ AW d 1 87 [some (.ref x), l1, l2, l3, l4, l5, l6, l7, l8] [.ref x, v0] m Q := A_aload_n hB_X0_lay dX0_lay_86 rfl
theorem dX0_lay_87 : decode cX0_lay 87 = .ok (.getfield 27, 3) := by decide +kernel
theorem tX0_lay_87 {d : Nat} {l0 l1 l2 l3 l4 l5 l6 l7 l8 : Option Value} {v1 : Value} {a : Nat} {m : jmM} {Q : Option Value → jmM → Prop} : AW d 1 87 [l0, l1, l2, l3, l4, l5, l6, l7, l8] [.ref a, v1] m Q ↔ (mS m a).1 = 0 ∧ AW d 1 90 [l0, l1, l2, l3, l4, l5, l6, l7, l8] [.int (mI m a 5), v1] m Q := A_getfield (f := fun m a => .int (mI m a 5)) hB_X0_lay dX0_lay_87 hO_X0_lay fF_0_27 rfl
theorem dX0_lay_90 : decode cX0_lay 90 = .ok (.iconst 0, 1) := by decide +kernel
theorem tX0_lay_90 {d : Nat} {l0 l1 l2 l3 l4 l5 l6 l7 l8 : Option Value} {v0 v1 : Value} {m : jmM} {Q : Option Value → jmM → Prop} : AW d 1 90 [l0, l1, l2, l3, l4, l5, l6, l7, l8] [v0, v1] m Q ↔ AW d 1 91 [l0, l1, l2, l3, l4, l5, l6, l7, l8] [.int 0, v0, v1] m Q := A_iconst hB_X0_lay dX0_lay_90 (by decide)
theorem dX0_lay_91 : decode cX0_lay 91 = .ok (.iastore, 1) := by decide +kernel
theorem tX0_lay_91 {d : Nat} {l0 l1 l2 l3 l4 l5 l6 l7 l8 : Option Value} {x i : Int32} {a : Nat} {m : jmM} {Q : Option Value → jmM → Prop} : AW d 1 91 [l0, l1, l2, l3, l4, l5, l6, l7, l8] [.int x, .int i, .ref a] m Q ↔ ((mS m a).1 = 20 ∧ jIx i (mS m a).2) ∧ AW d 1 92 [l0, l1, l2, l3, l4, l5, l6, l7, l8] [] (cI m a (jup (mI m a) (jx i) x)) Q := A_iastore hB_X0_lay dX0_lay_91
theorem dX0_lay_92 : decode cX0_lay 92 = .ok (.aload_n 1, 1) := by decide +kernel
theorem tX0_lay_92 {d : Nat} {l0 l2 l3 l4 l5 l6 l7 l8 : Option Value} {x : Nat} {m : jmM} {Q : Option Value → jmM → Prop} : AW d 1 92 [l0, some (.ref x), l2, l3, l4, l5, l6, l7, l8] [] m Q ↔ AW d 1 93 [l0, some (.ref x), l2, l3, l4, l5, l6, l7, l8] [.ref x] m Q := A_aload_n hB_X0_lay dX0_lay_92 rfl
theorem dX0_lay_93 : decode cX0_lay 93 = .ok (.iload_n 2, 1) := by decide +kernel
theorem tX0_lay_93 {d : Nat} {l0 l1 l3 l4 l5 l6 l7 l8 : Option Value} {v0 : Value} {x : Int32} {m : jmM} {Q : Option Value → jmM → Prop} : AW d 1 93 [l0, l1, some (.int x), l3, l4, l5, l6, l7, l8] [v0] m Q ↔ AW d 1 94 [l0, l1, some (.int x), l3, l4, l5, l6, l7, l8] [.int x, v0] m Q := A_iload_n hB_X0_lay dX0_lay_93 rfl
theorem dX0_lay_94 : decode cX0_lay 94 = .ok (.invokevirtual 46, 3) := by decide +kernel
theorem tX0_lay_94 {d : Nat} {l0 l1 l2 l3 l4 l5 l6 l7 l8 : Option Value} {y0 : Value} {a : Nat} {m : jmM} {Q : Option Value → jmM → Prop} : AW d 1 94 [l0, l1, l2, l3, l4, l5, l6, l7, l8] [y0, .ref a] m Q ↔ (mS m a).1 = 5 ∧ CC d 63 [.ref a, y0] m (jK d 1 97 [l0, l1, l2, l3, l4, l5, l6, l7, l8] [] Q) := A_callV hB_X0_lay dX0_lay_94 hO_X0_lay fS_0_46 ⟨Nat.le_of_ble_eq_true rfl, Nat.le_of_ble_eq_true rfl⟩ rfl rfl rfl
theorem dX0_lay_97 : decode cX0_lay 97 = .ok (.istore 5, 2) := by decide +kernel
theorem tX0_lay_97 {d : Nat} {l0 l1 l2 l3 l4 l5 l6 l7 l8 : Option Value} {x : Int32} {m : jmM} {Q : Option Value → jmM → Prop} : AW d 1 97 [l0, l1, l2, l3, l4, l5, l6, l7, l8] [.int x] m Q ↔ AW d 1 99 [l0, l1, l2, l3, jc1 l4, some (.int x), l6, l7, l8] [] m Q := A_istore hB_X0_lay dX0_lay_97 (Nat.le_of_ble_eq_true rfl) rfl
theorem dX0_lay_99 : decode cX0_lay 99 = .ok (.aload_n 1, 1) := by decide +kernel
theorem tX0_lay_99 {d : Nat} {l0 l2 l3 l4 l5 l6 l7 l8 : Option Value} {x : Nat} {m : jmM} {Q : Option Value → jmM → Prop} : AW d 1 99 [l0, some (.ref x), l2, l3, l4, l5, l6, l7, l8] [] m Q ↔ AW d 1 100 [l0, some (.ref x), l2, l3, l4, l5, l6, l7, l8] [.ref x] m Q := A_aload_n hB_X0_lay dX0_lay_99 rfl
theorem dX0_lay_100 : decode cX0_lay 100 = .ok (.invokevirtual 49, 3) := by decide +kernel
theorem tX0_lay_100 {d : Nat} {l0 l1 l2 l3 l4 l5 l6 l7 l8 : Option Value} {a : Nat} {m : jmM} {Q : Option Value → jmM → Prop} : AW d 1 100 [l0, l1, l2, l3, l4, l5, l6, l7, l8] [.ref a] m Q ↔ (mS m a).1 = 5 ∧ CC d 62 [.ref a] m (jK d 1 103 [l0, l1, l2, l3, l4, l5, l6, l7, l8] [] Q) := A_callV hB_X0_lay dX0_lay_100 hO_X0_lay fS_0_49 ⟨Nat.le_of_ble_eq_true rfl, Nat.le_of_ble_eq_true rfl⟩ rfl rfl rfl
theorem dX0_lay_103 : decode cX0_lay 103 = .ok (.istore 6, 2) := by decide +kernel
theorem tX0_lay_103 {d : Nat} {l0 l1 l2 l3 l4 l5 l6 l7 l8 : Option Value} {x : Int32} {m : jmM} {Q : Option Value → jmM → Prop} : AW d 1 103 [l0, l1, l2, l3, l4, l5, l6, l7, l8] [.int x] m Q ↔ AW d 1 105 [l0, l1, l2, l3, l4, jc1 l5, some (.int x), l7, l8] [] m Q := A_istore hB_X0_lay dX0_lay_103 (Nat.le_of_ble_eq_true rfl) rfl
theorem dX0_lay_105 : decode cX0_lay 105 = .ok (.aload_n 0, 1) := by decide +kernel
theorem tX0_lay_105 {d : Nat} {l1 l2 l3 l4 l5 l6 l7 l8 : Option Value} {x : Nat} {m : jmM} {Q : Option Value → jmM → Prop} : AW d 1 105 [some (.ref x), l1, l2, l3, l4, l5, l6, l7, l8] [] m Q ↔ AW d 1 106 [some (.ref x), l1, l2, l3, l4, l5, l6, l7, l8] [.ref x] m Q := A_aload_n hB_X0_lay dX0_lay_105 rfl
theorem dX0_lay_106 : decode cX0_lay 106 = .ok (.getfield 27, 3) := by decide +kernel
theorem tX0_lay_106 {d : Nat} {l0 l1 l2 l3 l4 l5 l6 l7 l8 : Option Value} {a : Nat} {m : jmM} {Q : Option Value → jmM → Prop} : AW d 1 106 [l0, l1, l2, l3, l4, l5, l6, l7, l8] [.ref a] m Q ↔ (mS m a).1 = 0 ∧ AW d 1 109 [l0, l1, l2, l3, l4, l5, l6, l7, l8] [.int (mI m a 5)] m Q := A_getfield (f := fun m a => .int (mI m a 5)) hB_X0_lay dX0_lay_106 hO_X0_lay fF_0_27 rfl
theorem dX0_lay_109 : decode cX0_lay 109 = .ok (.iconst 1, 1) := by decide +kernel
theorem tX0_lay_109 {d : Nat} {l0 l1 l2 l3 l4 l5 l6 l7 l8 : Option Value} {v0 : Value} {m : jmM} {Q : Option Value → jmM → Prop} : AW d 1 109 [l0, l1, l2, l3, l4, l5, l6, l7, l8] [v0] m Q ↔ AW d 1 110 [l0, l1, l2, l3, l4, l5, l6, l7, l8] [.int 1, v0] m Q := A_iconst hB_X0_lay dX0_lay_109 (by decide)
theorem dX0_lay_110 : decode cX0_lay 110 = .ok (.isub, 1) := by decide +kernel
theorem tX0_lay_110 {d : Nat} {l0 l1 l2 l3 l4 l5 l6 l7 l8 : Option Value} {x y : Int32} {m : jmM} {Q : Option Value → jmM → Prop} : AW d 1 110 [l0, l1, l2, l3, l4, l5, l6, l7, l8] [.int y, .int x] m Q ↔ AW d 1 111 [l0, l1, l2, l3, l4, l5, l6, l7, l8] [.int (x - y)] m Q := A_isub hB_X0_lay dX0_lay_110
theorem dX0_lay_111 : decode cX0_lay 111 = .ok (.istore 7, 2) := by decide +kernel
theorem tX0_lay_111 {d : Nat} {l0 l1 l2 l3 l4 l5 l6 l7 l8 : Option Value} {x : Int32} {m : jmM} {Q : Option Value → jmM → Prop} : AW d 1 111 [l0, l1, l2, l3, l4, l5, l6, l7, l8] [.int x] m Q ↔ AW d 1 113 [l0, l1, l2, l3, l4, l5, jc1 l6, some (.int x), l8] [] m Q := A_istore hB_X0_lay dX0_lay_111 (Nat.le_of_ble_eq_true rfl) rfl
theorem dX0_lay_113 : decode cX0_lay 113 = .ok (.iload 7, 2) := by decide +kernel
theorem tX0_lay_113 {d : Nat} {l0 l1 l2 l3 l4 l5 l6 l8 : Option Value} {x : Int32} {m : jmM} {Q : Option Value → jmM → Prop} : AW d 1 113 [l0, l1, l2, l3, l4, l5, l6, some (.int x), l8] [] m Q ↔ AW d 1 115 [l0, l1, l2, l3, l4, l5, l6, some (.int x), l8] [.int x] m Q := A_iload hB_X0_lay dX0_lay_113 rfl
theorem dX0_lay_115 : decode cX0_lay 115 = .ok (.ifCond .lt 104, 3) := by decide +kernel
theorem tX0_lay_115 {d : Nat} {l0 l1 l2 l3 l4 l5 l6 l7 l8 : Option Value} {x : Int32} {m : jmM} {Q : Option Value → jmM → Prop} : AW d 1 115 [l0, l1, l2, l3, l4, l5, l6, l7, l8] [.int x] m Q ↔ if x < 0 then AW d 1 219 [l0, l1, l2, l3, l4, l5, l6, l7, l8] [] m Q else AW d 1 118 [l0, l1, l2, l3, l4, l5, l6, l7, l8] [] m Q := A_if_lt hB_X0_lay dX0_lay_115 (by decide)
theorem dX0_lay_118 : decode cX0_lay 118 = .ok (.aload_n 0, 1) := by decide +kernel
theorem tX0_lay_118 {d : Nat} {l1 l2 l3 l4 l5 l6 l7 l8 : Option Value} {x : Nat} {m : jmM} {Q : Option Value → jmM → Prop} : AW d 1 118 [some (.ref x), l1, l2, l3, l4, l5, l6, l7, l8] [] m Q ↔ AW d 1 119 [some (.ref x), l1, l2, l3, l4, l5, l6, l7, l8] [.ref x] m Q := A_aload_n hB_X0_lay dX0_lay_118 rfl
theorem dX0_lay_119 : decode cX0_lay 119 = .ok (.getfield 9, 3) := by decide +kernel
theorem tX0_lay_119 {d : Nat} {l0 l1 l2 l3 l4 l5 l6 l7 l8 : Option Value} {a : Nat} {m : jmM} {Q : Option Value → jmM → Prop} : AW d 1 119 [l0, l1, l2, l3, l4, l5, l6, l7, l8] [.ref a] m Q ↔ (mS m a).1 = 0 ∧ AW d 1 122 [l0, l1, l2, l3, l4, l5, l6, l7, l8] [va_rf (mR m a 0)] m Q := A_getfield (f := fun m a => va_rf (mR m a 0)) hB_X0_lay dX0_lay_119 hO_X0_lay fF_0_9 rfl
theorem dX0_lay_122 : decode cX0_lay 122 = .ok (.iload 7, 2) := by decide +kernel
theorem tX0_lay_122 {d : Nat} {l0 l1 l2 l3 l4 l5 l6 l8 : Option Value} {v0 : Value} {x : Int32} {m : jmM} {Q : Option Value → jmM → Prop} : AW d 1 122 [l0, l1, l2, l3, l4, l5, l6, some (.int x), l8] [v0] m Q ↔ AW d 1 124 [l0, l1, l2, l3, l4, l5, l6, some (.int x), l8] [.int x, v0] m Q := A_iload hB_X0_lay dX0_lay_122 rfl
theorem dX0_lay_124 : decode cX0_lay 124 = .ok (.aload_n 0, 1) := by decide +kernel
theorem tX0_lay_124 {d : Nat} {l1 l2 l3 l4 l5 l6 l7 l8 : Option Value} {v0 v1 : Value} {x : Nat} {m : jmM} {Q : Option Value → jmM → Prop} : AW d 1 124 [some (.ref x), l1, l2, l3, l4, l5, l6, l7, l8] [v0, v1] m Q ↔ AW d 1 125 [some (.ref x), l1, l2, l3, l4, l5, l6, l7, l8] [.ref x, v0, v1] m Q := A_aload_n hB_X0_lay dX0_lay_124 rfl
theorem dX0_lay_125 : decode cX0_lay 125 = .ok (.getfield 9, 3) := by decide +kernel
theorem tX0_lay_125 {d : Nat} {l0 l1 l2 l3 l4 l5 l6 l7 l8 : Option Value} {v1 v2 : Value} {a : Nat} {m : jmM} {Q : Option Value → jmM → Prop} : AW d 1 125 [l0, l1, l2, l3, l4, l5, l6, l7, l8] [.ref a, v1, v2] m Q ↔ (mS m a).1 = 0 ∧ AW d 1 128 [l0, l1, l2, l3, l4, l5, l6, l7, l8] [va_rf (mR m a 0), v1, v2] m Q := A_getfield (f := fun m a => va_rf (mR m a 0)) hB_X0_lay dX0_lay_125 hO_X0_lay fF_0_9 rfl
theorem dX0_lay_128 : decode cX0_lay 128 = .ok (.iload 7, 2) := by decide +kernel
theorem tX0_lay_128 {d : Nat} {l0 l1 l2 l3 l4 l5 l6 l8 : Option Value} {v0 v1 v2 : Value} {x : Int32} {m : jmM} {Q : Option Value → jmM → Prop} : AW d 1 128 [l0, l1, l2, l3, l4, l5, l6, some (.int x), l8] [v0, v1, v2] m Q ↔ AW d 1 130 [l0, l1, l2, l3, l4, l5, l6, some (.int x), l8] [.int x, v0, v1, v2] m Q := A_iload hB_X0_lay dX0_lay_128 rfl
theorem dX0_lay_130 : decode cX0_lay 130 = .ok (.iconst 1, 1) := by decide +kernel
theorem tX0_lay_130 {d : Nat} {l0 l1 l2 l3 l4 l5 l6 l7 l8 : Option Value} {v0 v1 v2 v3 : Value} {m : jmM} {Q : Option Value → jmM → Prop} : AW d 1 130 [l0, l1, l2, l3, l4, l5, l6, l7, l8] [v0, v1, v2, v3] m Q ↔ AW d 1 131 [l0, l1, l2, l3, l4, l5, l6, l7, l8] [.int 1, v0, v1, v2, v3] m Q := A_iconst hB_X0_lay dX0_lay_130 (by decide)
theorem dX0_lay_131 : decode cX0_lay 131 = .ok (.iadd, 1) := by decide +kernel
theorem tX0_lay_131 {d : Nat} {l0 l1 l2 l3 l4 l5 l6 l7 l8 : Option Value} {v2 v3 v4 : Value} {x y : Int32} {m : jmM} {Q : Option Value → jmM → Prop} : AW d 1 131 [l0, l1, l2, l3, l4, l5, l6, l7, l8] [.int y, .int x, v2, v3, v4] m Q ↔ AW d 1 132 [l0, l1, l2, l3, l4, l5, l6, l7, l8] [.int (x + y), v2, v3, v4] m Q := A_iadd hB_X0_lay dX0_lay_131
theorem dX0_lay_132 : decode cX0_lay 132 = .ok (.iaload, 1) := by decide +kernel
theorem tX0_lay_132 {d : Nat} {l0 l1 l2 l3 l4 l5 l6 l7 l8 : Option Value} {v2 v3 : Value} {i : Int32} {a : Nat} {m : jmM} {Q : Option Value → jmM → Prop} : AW d 1 132 [l0, l1, l2, l3, l4, l5, l6, l7, l8] [.int i, .ref a, v2, v3] m Q ↔ (((mS m a).1 = 20 ∨ a = jScr) ∧ jIx i (mS m a).2) ∧ AW d 1 133 [l0, l1, l2, l3, l4, l5, l6, l7, l8] [.int (mI m a (jx i)), v2, v3] m Q := A_iaload hB_X0_lay dX0_lay_132
theorem dX0_lay_133 : decode cX0_lay 133 = .ok (.iastore, 1) := by decide +kernel
theorem tX0_lay_133 {d : Nat} {l0 l1 l2 l3 l4 l5 l6 l7 l8 : Option Value} {x i : Int32} {a : Nat} {m : jmM} {Q : Option Value → jmM → Prop} : AW d 1 133 [l0, l1, l2, l3, l4, l5, l6, l7, l8] [.int x, .int i, .ref a] m Q ↔ ((mS m a).1 = 20 ∧ jIx i (mS m a).2) ∧ AW d 1 134 [l0, l1, l2, l3, l4, l5, l6, l7, l8] [] (cI m a (jup (mI m a) (jx i) x)) Q := A_iastore hB_X0_lay dX0_lay_133
theorem dX0_lay_134 : decode cX0_lay 134 = .ok (.aload_n 0, 1) := by decide +kernel
theorem tX0_lay_134 {d : Nat} {l1 l2 l3 l4 l5 l6 l7 l8 : Option Value} {x : Nat} {m : jmM} {Q : Option Value → jmM → Prop} : AW d 1 134 [some (.ref x), l1, l2, l3, l4, l5, l6, l7, l8] [] m Q ↔ AW d 1 135 [some (.ref x), l1, l2, l3, l4, l5, l6, l7, l8] [.ref x] m Q := A_aload_n hB_X0_lay dX0_lay_134 rfl
theorem dX0_lay_135 : decode cX0_lay 135 = .ok (.getfield 15, 3) := by decide +kernel
theorem tX0_lay_135 {d : Nat} {l0 l1 l2 l3 l4 l5 l6 l7 l8 : Option Value} {a : Nat} {m : jmM} {Q : Option Value → jmM → Prop} : AW d 1 135 [l0, l1, l2, l3, l4, l5, l6, l7, l8] [.ref a] m Q ↔ (mS m a).1 = 0 ∧ AW d 1 138 [l0, l1, l2, l3, l4, l5, l6, l7, l8] [va_rf (mR m a 1)] m Q := A_getfield (f := fun m a => va_rf (mR m a 1)) hB_X0_lay dX0_lay_135 hO_X0_lay fF_0_15 rfl
theorem dX0_lay_138 : decode cX0_lay 138 = .ok (.iload 7, 2) := by decide +kernel
theorem tX0_lay_138 {d : Nat} {l0 l1 l2 l3 l4 l5 l6 l8 : Option Value} {v0 : Value} {x : Int32} {m : jmM} {Q : Option Value → jmM → Prop} : AW d 1 138 [l0, l1, l2, l3, l4, l5, l6, some (.int x), l8] [v0] m Q ↔ AW d 1 140 [l0, l1, l2, l3, l4, l5, l6, some (.int x), l8] [.int x, v0] m Q := A_iload hB_X0_lay dX0_lay_138 rfl
theorem dX0_lay_140 : decode cX0_lay 140 = .ok (.iconst 0, 1) := by decide +kernel
theorem tX0_lay_140 {d : Nat} {l0 l1 l2 l3 l4 l5 l6 l7 l8 : Option Value} {v0 v1 : Value} {m : jmM} {Q : Option Value → jmM → Prop} : AW d 1 140 [l0, l1, l2, l3, l4, l5, l6, l7, l8] [v0, v1] m Q ↔ AW d 1 141 [l0, l1, l2, l3, l4, l5, l6, l7, l8] [.int 0, v0, v1] m Q := A_iconst hB_X0_lay dX0_lay_140 (by decide)
theorem dX0_lay_141 : decode cX0_lay 141 = .ok (.iastore, 1) := by decide +kernel
theorem tX0_lay_141 {d : Nat} {l0 l1 l2 l3 l4 l5 l6 l7 l8 : Option Value} {x i : Int32} {a : Nat} {m : jmM} {Q : Option Value → jmM → Prop} : AW d 1 141 [l0, l1, l2, l3, l4, l5, l6, l7, l8] [.int x, .int i, .ref a] m Q ↔ ((mS m a).1 = 20 ∧ jIx i (mS m a).2) ∧ AW d 1 142 [l0, l1, l2, l3, l4, l5, l6, l7, l8] [] (cI m a (jup (mI m a) (jx i) x)) Q := A_iastore hB_X0_lay dX0_lay_141
theorem dX0_lay_142 : decode cX0_lay 142 = .ok (.iconst 0, 1) := by decide +kernel
theorem tX0_lay_142 {d : Nat} {l0 l1 l2 l3 l4 l5 l6 l7 l8 : Option Value} {m : jmM} {Q : Option Value → jmM → Prop} : AW d 1 142 [l0, l1, l2, l3, l4, l5, l6, l7, l8] [] m Q ↔ AW d 1 143 [l0, l1, l2, l3, l4, l5, l6, l7, l8] [.int 0] m Q := A_iconst hB_X0_lay dX0_lay_142 (by decide)
theorem dX0_lay_143 : decode cX0_lay 143 = .ok (.istore 8, 2) := by decide +kernel
theorem tX0_lay_143 {d : Nat} {l0 l1 l2 l3 l4 l5 l6 l7 l8 : Option Value} {x : Int32} {m : jmM} {Q : Option Value → jmM → Prop} : AW d 1 143 [l0, l1, l2, l3, l4, l5, l6, l7, l8] [.int x] m Q ↔ AW d 1 145 [l0, l1, l2, l3, l4, l5, l6, jc1 l7, some (.int x)] [] m Q := A_istore hB_X0_lay dX0_lay_143 (Nat.le_of_ble_eq_true rfl) rfl
theorem dX0_lay_145 : decode cX0_lay 145 = .ok (.iload 8, 2) := by decide +kernel
theorem tX0_lay_145 {d : Nat} {l0 l1 l2 l3 l4 l5 l6 l7 : Option Value} {x : Int32} {m : jmM} {Q : Option Value → jmM → Prop} : AW d 1 145 [l0, l1, l2, l3, l4, l5, l6, l7, some (.int x)] [] m Q ↔ AW d 1 147 [l0, l1, l2, l3, l4, l5, l6, l7, some (.int x)] [.int x] m Q := A_iload hB_X0_lay dX0_lay_145 rfl
theorem dX0_lay_147 : decode cX0_lay 147 = .ok (.iload 4, 2) := by decide +kernel
theorem tX0_lay_147 {d : Nat} {l0 l1 l2 l3 l5 l6 l7 l8 : Option Value} {v0 : Value} {x : Int32} {m : jmM} {Q : Option Value → jmM → Prop} : AW d 1 147 [l0, l1, l2, l3, some (.int x), l5, l6, l7, l8] [v0] m Q ↔ AW d 1 149 [l0, l1, l2, l3, some (.int x), l5, l6, l7, l8] [.int x, v0] m Q := A_iload hB_X0_lay dX0_lay_147 rfl
theorem dX0_lay_149 : decode cX0_lay 149 = .ok (.if_icmp .ge 64, 3) := by decide +kernel
theorem tX0_lay_149 {d : Nat} {l0 l1 l2 l3 l4 l5 l6 l7 l8 : Option Value} {x y : Int32} {m : jmM} {Q : Option Value → jmM → Prop} : AW d 1 149 [l0, l1, l2, l3, l4, l5, l6, l7, l8] [.int y, .int x] m Q ↔ if y ≤ x then AW d 1 213 [l0, l1, l2, l3, l4, l5, l6, l7, l8] [] m Q else AW d 1 152 [l0, l1, l2, l3, l4, l5, l6, l7, l8] [] m Q := A_icmp_ge hB_X0_lay dX0_lay_149 (by decide)
theorem dX0_lay_152 : decode cX0_lay 152 = .ok (.iload 8, 2) := by decide +kernel
theorem tX0_lay_152 {d : Nat} {l0 l1 l2 l3 l4 l5 l6 l7 : Option Value} {x : Int32} {m : jmM} {Q : Option Value → jmM → Prop} : AW d 1 152 [l0, l1, l2, l3, l4, l5, l6, l7, some (.int x)] [] m Q ↔ AW d 1 154 [l0, l1, l2, l3, l4, l5, l6, l7, some (.int x)] [.int x] m Q := A_iload hB_X0_lay dX0_lay_152 rfl
theorem dX0_lay_154 : decode cX0_lay 154 = .ok (.bipush 8, 2) := by decide +kernel
theorem tX0_lay_154 {d : Nat} {l0 l1 l2 l3 l4 l5 l6 l7 l8 : Option Value} {v0 : Value} {m : jmM} {Q : Option Value → jmM → Prop} : AW d 1 154 [l0, l1, l2, l3, l4, l5, l6, l7, l8] [v0] m Q ↔ AW d 1 156 [l0, l1, l2, l3, l4, l5, l6, l7, l8] [.int 8, v0] m Q := A_bipush hB_X0_lay dX0_lay_154 rfl
theorem dX0_lay_156 : decode cX0_lay 156 = .ok (.if_icmp .ge 57, 3) := by decide +kernel
theorem tX0_lay_156 {d : Nat} {l0 l1 l2 l3 l4 l5 l6 l7 l8 : Option Value} {x y : Int32} {m : jmM} {Q : Option Value → jmM → Prop} : AW d 1 156 [l0, l1, l2, l3, l4, l5, l6, l7, l8] [.int y, .int x] m Q ↔ if y ≤ x then AW d 1 213 [l0, l1, l2, l3, l4, l5, l6, l7, l8] [] m Q else AW d 1 159 [l0, l1, l2, l3, l4, l5, l6, l7, l8] [] m Q := A_icmp_ge hB_X0_lay dX0_lay_156 (by decide)
theorem dX0_lay_159 : decode cX0_lay 159 = .ok (.iload 8, 2) := by decide +kernel
theorem tX0_lay_159 {d : Nat} {l0 l1 l2 l3 l4 l5 l6 l7 : Option Value} {x : Int32} {m : jmM} {Q : Option Value → jmM → Prop} : AW d 1 159 [l0, l1, l2, l3, l4, l5, l6, l7, some (.int x)] [] m Q ↔ AW d 1 161 [l0, l1, l2, l3, l4, l5, l6, l7, some (.int x)] [.int x] m Q := A_iload hB_X0_lay dX0_lay_159 rfl
theorem dX0_lay_161 : decode cX0_lay 161 = .ok (.aload_n 3, 1) := by decide +kernel
theorem tX0_lay_161 {d : Nat} {l0 l1 l2 l4 l5 l6 l7 l8 : Option Value} {v0 : Value} {x : Nat} {m : jmM} {Q : Option Value → jmM → Prop} : AW d 1 161 [l0, l1, l2, some (.ref x), l4, l5, l6, l7, l8] [v0] m Q ↔ AW d 1 162 [l0, l1, l2, some (.ref x), l4, l5, l6, l7, l8] [.ref x, v0] m Q := A_aload_n hB_X0_lay dX0_lay_161 rfl
theorem dX0_lay_162 : decode cX0_lay 162 = .ok (.arraylength, 1) := by decide +kernel
theorem tX0_lay_162 {d : Nat} {l0 l1 l2 l3 l4 l5 l6 l7 l8 : Option Value} {v1 : Value} {a : Nat} {m : jmM} {Q : Option Value → jmM → Prop} : AW d 1 162 [l0, l1, l2, l3, l4, l5, l6, l7, l8] [.ref a, v1] m Q ↔ ((20 ≤ (mS m a).1 ∧ (mS m a).1 ≤ 26) ∨ a = jScr) ∧ AW d 1 163 [l0, l1, l2, l3, l4, l5, l6, l7, l8] [.int (nI (mS m a).2), v1] m Q := A_arraylength hB_X0_lay dX0_lay_162
theorem dX0_lay_163 : decode cX0_lay 163 = .ok (.if_icmp .ge 50, 3) := by decide +kernel
theorem tX0_lay_163 {d : Nat} {l0 l1 l2 l3 l4 l5 l6 l7 l8 : Option Value} {x y : Int32} {m : jmM} {Q : Option Value → jmM → Prop} : AW d 1 163 [l0, l1, l2, l3, l4, l5, l6, l7, l8] [.int y, .int x] m Q ↔ if y ≤ x then AW d 1 213 [l0, l1, l2, l3, l4, l5, l6, l7, l8] [] m Q else AW d 1 166 [l0, l1, l2, l3, l4, l5, l6, l7, l8] [] m Q := A_icmp_ge hB_X0_lay dX0_lay_163 (by decide)
theorem dX0_lay_166 : decode cX0_lay 166 = .ok (.aload_n 3, 1) := by decide +kernel
theorem tX0_lay_166 {d : Nat} {l0 l1 l2 l4 l5 l6 l7 l8 : Option Value} {x : Nat} {m : jmM} {Q : Option Value → jmM → Prop} : AW d 1 166 [l0, l1, l2, some (.ref x), l4, l5, l6, l7, l8] [] m Q ↔ AW d 1 167 [l0, l1, l2, some (.ref x), l4, l5, l6, l7, l8] [.ref x] m Q := A_aload_n hB_X0_lay dX0_lay_166 rfl
theorem dX0_lay_167 : decode cX0_lay 167 = .ok (.iload 8, 2) := by decide +kernel
theorem tX0_lay_167 {d : Nat} {l0 l1 l2 l3 l4 l5 l6 l7 : Option Value} {v0 : Value} {x : Int32} {m : jmM} {Q : Option Value → jmM → Prop} : AW d 1 167 [l0, l1, l2, l3, l4, l5, l6, l7, some (.int x)] [v0] m Q ↔ AW d 1 169 [l0, l1, l2, l3, l4, l5, l6, l7, some (.int x)] [.int x, v0] m Q := A_iload hB_X0_lay dX0_lay_167 rfl
theorem dX0_lay_169 : decode cX0_lay 169 = .ok (.aaload, 1) := by decide +kernel
theorem tX0_lay_169 {d : Nat} {l0 l1 l2 l3 l4 l5 l6 l7 l8 : Option Value} {i : Int32} {a : Nat} {m : jmM} {Q : Option Value → jmM → Prop} : AW d 1 169 [l0, l1, l2, l3, l4, l5, l6, l7, l8] [.int i, .ref a] m Q ↔ (24 ≤ (mS m a).1 ∧ (mS m a).1 ≤ 26 ∧ jIx i (mS m a).2) ∧ AW d 1 170 [l0, l1, l2, l3, l4, l5, l6, l7, l8] [va_rf (mR m a (jx i))] m Q := A_aaload hB_X0_lay dX0_lay_169
theorem dX0_lay_170 : decode cX0_lay 170 = .ok (.aload_n 1, 1) := by decide +kernel
theorem tX0_lay_170 {d : Nat} {l0 l2 l3 l4 l5 l6 l7 l8 : Option Value} {v0 : Value} {x : Nat} {m : jmM} {Q : Option Value → jmM → Prop} : AW d 1 170 [l0, some (.ref x), l2, l3, l4, l5, l6, l7, l8] [v0] m Q ↔ AW d 1 171 [l0, some (.ref x), l2, l3, l4, l5, l6, l7, l8] [.ref x, v0] m Q := A_aload_n hB_X0_lay dX0_lay_170 rfl
theorem dX0_lay_171 : decode cX0_lay 171 = .ok (.iload 7, 2) := by decide +kernel
theorem tX0_lay_171 {d : Nat} {l0 l1 l2 l3 l4 l5 l6 l8 : Option Value} {v0 v1 : Value} {x : Int32} {m : jmM} {Q : Option Value → jmM → Prop} : AW d 1 171 [l0, l1, l2, l3, l4, l5, l6, some (.int x), l8] [v0, v1] m Q ↔ AW d 1 173 [l0, l1, l2, l3, l4, l5, l6, some (.int x), l8] [.int x, v0, v1] m Q := A_iload hB_X0_lay dX0_lay_171 rfl
theorem dX0_lay_173 : decode cX0_lay 173 = .ok (.iload 5, 2) := by decide +kernel
theorem tX0_lay_173 {d : Nat} {l0 l1 l2 l3 l4 l6 l7 l8 : Option Value} {v0 v1 v2 : Value} {x : Int32} {m : jmM} {Q : Option Value → jmM → Prop} : AW d 1 173 [l0, l1, l2, l3, l4, some (.int x), l6, l7, l8] [v0, v1, v2] m Q ↔ AW d 1 175 [l0, l1, l2, l3, l4, some (.int x), l6, l7, l8] [.int x, v0, v1, v2] m Q := A_iload hB_X0_lay dX0_lay_173 rfl
theorem dX0_lay_175 : decode cX0_lay 175 = .ok (.iload 6, 2) := by decide +kernel
theorem tX0_lay_175 {d : Nat} {l0 l1 l2 l3 l4 l5 l7 l8 : Option Value} {v0 v1 v2 v3 : Value} {x : Int32} {m : jmM} {Q : Option Value → jmM → Prop} : AW d 1 175 [l0, l1, l2, l3, l4, l5, some (.int x), l7, l8] [v0, v1, v2, v3] m Q ↔ AW d 1 177 [l0, l1, l2, l3, l4, l5, some (.int x), l7, l8] [.int x, v0, v1, v2, v3] m Q := A_iload hB_X0_lay dX0_lay_175 rfl
theorem dX0_lay_177 : decode cX0_lay 177 = .ok (.invokevirtual 52, 3) := by decide +kernel
theorem tX0_lay_177 {d : Nat} {l0 l1 l2 l3 l4 l5 l6 l7 l8 : Option Value} {y0 y1 y2 y3 : Value} {a : Nat} {m : jmM} {Q : Option Value → jmM → Prop} : AW d 1 177 [l0, l1, l2, l3, l4, l5, l6, l7, l8] [y0, y1, y2, y3, .ref a] m Q ↔ (mS m a).1 = 10 ∧ CC d 139 [.ref a, y3, y2, y1, y0] m (jK d 1 180 [l0, l1, l2, l3, l4, l5, l6, l7, l8] [] Q) := A_callV hB_X0_lay dX0_lay_177 hO_X0_lay fS_0_52 ⟨Nat.le_of_ble_eq_true rfl, Nat.le_of_ble_eq_true rfl⟩ rfl rfl rfl
theorem dX0_lay_180 : decode cX0_lay 180 = .ok (.ifCond .ne 18, 3) := by decide +kernel
theorem tX0_lay_180 {d : Nat} {l0 l1 l2 l3 l4 l5 l6 l7 l8 : Option Value} {x : Int32} {m : jmM} {Q : Option Value → jmM → Prop} : AW d 1 180 [l0, l1, l2, l3, l4, l5, l6, l7, l8] [.int x] m Q ↔ if x = 0 then AW d 1 183 [l0, l1, l2, l3, l4, l5, l6, l7, l8] [] m Q else AW d 1 198 [l0, l1, l2, l3, l4, l5, l6, l7, l8] [] m Q := A_if_ne hB_X0_lay dX0_lay_180 (by decide)
theorem dX0_lay_183 : decode cX0_lay 183 = .ok (.aload_n 0, 1) := by decide +kernel
theorem tX0_lay_183 {d : Nat} {l1 l2 l3 l4 l5 l6 l7 l8 : Option Value} {x : Nat} {m : jmM} {Q : Option Value → jmM → Prop} : AW d 1 183 [some (.ref x), l1, l2, l3, l4, l5, l6, l7, l8] [] m Q ↔ AW d 1 184 [some (.ref x), l1, l2, l3, l4, l5, l6, l7, l8] [.ref x] m Q := A_aload_n hB_X0_lay dX0_lay_183 rfl
theorem dX0_lay_184 : decode cX0_lay 184 = .ok (.iload 7, 2) := by decide +kernel
theorem tX0_lay_184 {d : Nat} {l0 l1 l2 l3 l4 l5 l6 l8 : Option Value} {v0 : Value} {x : Int32} {m : jmM} {Q : Option Value → jmM → Prop} : AW d 1 184 [l0, l1, l2, l3, l4, l5, l6, some (.int x), l8] [v0] m Q ↔ AW d 1 186 [l0, l1, l2, l3, l4, l5, l6, some (.int x), l8] [.int x, v0] m Q := A_iload hB_X0_lay dX0_lay_184 rfl
theorem dX0_lay_186 : decode cX0_lay 186 = .ok (.iload 8, 2) := by decide +kernel
theorem tX0_lay_186 {d : Nat} {l0 l1 l2 l3 l4 l5 l6 l7 : Option Value} {v0 v1 : Value} {x : Int32} {m : jmM} {Q : Option Value → jmM → Prop} : AW d 1 186 [l0, l1, l2, l3, l4, l5, l6, l7, some (.int x)] [v0, v1] m Q ↔ AW d 1 188 [l0, l1, l2, l3, l4, l5, l6, l7, some (.int x)] [.int x, v0, v1] m Q := A_iload hB_X0_lay dX0_lay_186 rfl
theorem dX0_lay_188 : decode cX0_lay 188 = .ok (.aload_n 3, 1) := by decide +kernel
theorem tX0_lay_188 {d : Nat} {l0 l1 l2 l4 l5 l6 l7 l8 : Option Value} {v0 v1 v2 : Value} {x : Nat} {m : jmM} {Q : Option Value → jmM → Prop} : AW d 1 188 [l0, l1, l2, some (.ref x), l4, l5, l6, l7, l8] [v0, v1, v2] m Q ↔ AW d 1 189 [l0, l1, l2, some (.ref x), l4, l5, l6, l7, l8] [.ref x, v0, v1, v2] m Q := A_aload_n hB_X0_lay dX0_lay_188 rfl
theorem dX0_lay_189 : decode cX0_lay 189 = .ok (.iload 8, 2) := by decide +kernel
theorem tX0_lay_189 {d : Nat} {l0 l1 l2 l3 l4 l5 l6 l7 : Option Value} {v0 v1 v2 v3 : Value} {x : Int32} {m : jmM} {Q : Option Value → jmM → Prop} : AW d 1 189 [l0, l1, l2, l3, l4, l5, l6, l7, some (.int x)] [v0, v1, v2, v3] m Q ↔ AW d 1 191 [l0, l1, l2, l3, l4, l5, l6, l7, some (.int x)] [.int x, v0, v1, v2, v3] m Q := A_iload hB_X0_lay dX0_lay_189 rfl
theorem dX0_lay_191 : decode cX0_lay 191 = .ok (.aaload, 1) := by decide +kernel
theorem tX0_lay_191 {d : Nat} {l0 l1 l2 l3 l4 l5 l6 l7 l8 : Option Value} {v2 v3 v4 : Value} {i : Int32} {a : Nat} {m : jmM} {Q : Option Value → jmM → Prop} : AW d 1 191 [l0, l1, l2, l3, l4, l5, l6, l7, l8] [.int i, .ref a, v2, v3, v4] m Q ↔ (24 ≤ (mS m a).1 ∧ (mS m a).1 ≤ 26 ∧ jIx i (mS m a).2) ∧ AW d 1 192 [l0, l1, l2, l3, l4, l5, l6, l7, l8] [va_rf (mR m a (jx i)), v2, v3, v4] m Q := A_aaload hB_X0_lay dX0_lay_191
theorem dX0_lay_192 : decode cX0_lay 192 = .ok (.invokevirtual 58, 3) := by decide +kernel
theorem tX0_lay_192 {d : Nat} {l0 l1 l2 l3 l4 l5 l6 l7 l8 : Option Value} {y0 y1 y2 : Value} {a : Nat} {m : jmM} {Q : Option Value → jmM → Prop} : AW d 1 192 [l0, l1, l2, l3, l4, l5, l6, l7, l8] [y0, y1, y2, .ref a] m Q ↔ (mS m a).1 = 0 ∧ CC d 2 [.ref a, y2, y1, y0] m (jK d 1 195 [l0, l1, l2, l3, l4, l5, l6, l7, l8] [] Q) := A_callV hB_X0_lay dX0_lay_192 hO_X0_lay fS_0_58 ⟨Nat.le_of_ble_eq_true rfl, Nat.le_of_ble_eq_true rfl⟩ rfl rfl rfl
theorem dX0_lay_195 : decode cX0_lay 195 = .ok (.goto 12, 3) := by decide +kernel
theorem tX0_lay_195 {d : Nat} {l0 l1 l2 l3 l4 l5 l6 l7 l8 : Option Value} {m : jmM} {Q : Option Value → jmM → Prop} : AW d 1 195 [l0, l1, l2, l3, l4, l5, l6, l7, l8] [] m Q ↔ AW d 1 207 [l0, l1, l2, l3, l4, l5, l6, l7, l8] [] m Q := A_goto hB_X0_lay dX0_lay_195 (by decide)
theorem dX0_lay_198 : decode cX0_lay 198 = .ok (.aload_n 0, 1) := by decide +kernel
theorem tX0_lay_198 {d : Nat} {l1 l2 l3 l4 l5 l6 l7 l8 : Option Value} {x : Nat} {m : jmM} {Q : Option Value → jmM → Prop} : AW d 1 198 [some (.ref x), l1, l2, l3, l4, l5, l6, l7, l8] [] m Q ↔ AW d 1 199 [some (.ref x), l1, l2, l3, l4, l5, l6, l7, l8] [.ref x] m Q := A_aload_n hB_X0_lay dX0_lay_198 rfl
theorem dX0_lay_199 : decode cX0_lay 199 = .ok (.getfield 24, 3) := by decide +kernel
theorem tX0_lay_199 {d : Nat} {l0 l1 l2 l3 l4 l5 l6 l7 l8 : Option Value} {a : Nat} {m : jmM} {Q : Option Value → jmM → Prop} : AW d 1 199 [l0, l1, l2, l3, l4, l5, l6, l7, l8] [.ref a] m Q ↔ (mS m a).1 = 0 ∧ AW d 1 202 [l0, l1, l2, l3, l4, l5, l6, l7, l8] [va_rf (mR m a 4)] m Q := A_getfield (f := fun m a => va_rf (mR m a 4)) hB_X0_lay dX0_lay_199 hO_X0_lay fF_0_24 rfl
theorem dX0_lay_202 : decode cX0_lay 202 = .ok (.iload 8, 2) := by decide +kernel
theorem tX0_lay_202 {d : Nat} {l0 l1 l2 l3 l4 l5 l6 l7 : Option Value} {v0 : Value} {x : Int32} {m : jmM} {Q : Option Value → jmM → Prop} : AW d 1 202 [l0, l1, l2, l3, l4, l5, l6, l7, some (.int x)] [v0] m Q ↔ AW d 1 204 [l0, l1, l2, l3, l4, l5, l6, l7, some (.int x)] [.int x, v0] m Q := A_iload hB_X0_lay dX0_lay_202 rfl
theorem dX0_lay_204 : decode cX0_lay 204 = .ok (.iload 7, 2) := by decide +kernel
theorem tX0_lay_204 {d : Nat} {l0 l1 l2 l3 l4 l5 l6 l8 : Option Value} {v0 v1 : Value} {x : Int32} {m : jmM} {Q : Option Value → jmM → Prop} : AW d 1 204 [l0, l1, l2, l3, l4, l5, l6, some (.int x), l8] [v0, v1] m Q ↔ AW d 1 206 [l0, l1, l2, l3, l4, l5, l6, some (.int x), l8] [.int x, v0, v1] m Q := A_iload hB_X0_lay dX0_lay_204 rfl
theorem dX0_lay_206 : decode cX0_lay 206 = .ok (.iastore, 1) := by decide +kernel
theorem tX0_lay_206 {d : Nat} {l0 l1 l2 l3 l4 l5 l6 l7 l8 : Option Value} {x i : Int32} {a : Nat} {m : jmM} {Q : Option Value → jmM → Prop} : AW d 1 206 [l0, l1, l2, l3, l4, l5, l6, l7, l8] [.int x, .int i, .ref a] m Q ↔ ((mS m a).1 = 20 ∧ jIx i (mS m a).2) ∧ AW d 1 207 [l0, l1, l2, l3, l4, l5, l6, l7, l8] [] (cI m a (jup (mI m a) (jx i) x)) Q := A_iastore hB_X0_lay dX0_lay_206
theorem dX0_lay_207 : decode cX0_lay 207 = .ok (.iinc 8 1, 3) := by decide +kernel
theorem tX0_lay_207 {d : Nat} {l0 l1 l2 l3 l4 l5 l6 l7 : Option Value} {x : Int32} {m : jmM} {Q : Option Value → jmM → Prop} : AW d 1 207 [l0, l1, l2, l3, l4, l5, l6, l7, some (.int x)] [] m Q ↔ AW d 1 210 [l0, l1, l2, l3, l4, l5, l6, jc1 l7, some (.int (x + 1))] [] m Q := A_iinc hB_X0_lay dX0_lay_207 rfl (Nat.le_of_ble_eq_true rfl) (v := 1) (by decide) rfl
theorem dX0_lay_210 : decode cX0_lay 210 = .ok (.goto (-65), 3) := by decide +kernel
theorem tX0_lay_210 {d : Nat} {l0 l1 l2 l3 l4 l5 l6 l7 l8 : Option Value} {m : jmM} {Q : Option Value → jmM → Prop} : AW d 1 210 [l0, l1, l2, l3, l4, l5, l6, l7, l8] [] m Q ↔ AW d 1 145 [l0, l1, l2, l3, l4, l5, l6, l7, l8] [] m Q := A_goto hB_X0_lay dX0_lay_210 (by decide)
theorem dX0_lay_213 : decode cX0_lay 213 = .ok (.iinc 7 (-1), 3) := by decide +kernel
theorem tX0_lay_213 {d : Nat} {l0 l1 l2 l3 l4 l5 l6 l8 : Option Value} {x : Int32} {m : jmM} {Q : Option Value → jmM → Prop} : AW d 1 213 [l0, l1, l2, l3, l4, l5, l6, some (.int x), l8] [] m Q ↔ AW d 1 216 [l0, l1, l2, l3, l4, l5, jc1 l6, some (.int (x + (-1))), l8] [] m Q := A_iinc hB_X0_lay dX0_lay_213 rfl (Nat.le_of_ble_eq_true rfl) (v := (-1)) (by decide) rfl
theorem dX0_lay_216 : decode cX0_lay 216 = .ok (.goto (-103), 3) := by decide +kernel
theorem tX0_lay_216 {d : Nat} {l0 l1 l2 l3 l4 l5 l6 l7 l8 : Option Value} {m : jmM} {Q : Option Value → jmM → Prop} : AW d 1 216 [l0, l1, l2, l3, l4, l5, l6, l7, l8] [] m Q ↔ AW d 1 113 [l0, l1, l2, l3, l4, l5, l6, l7, l8] [] m Q := A_goto hB_X0_lay dX0_lay_216 (by decide)
theorem dX0_lay_219 : decode cX0_lay 219 = .ok (.return_, 1) := by decide +kernel
theorem tX0_lay_219 {d : Nat} {l0 l1 l2 l3 l4 l5 l6 l7 l8 : Option Value} {m : jmM} {Q : Option Value → jmM → Prop} : AW d 1 219 [l0, l1, l2, l3, l4, l5, l6, l7, l8] [] m Q ↔ Q none m := A_return hB_X0_lay dX0_lay_219 hR_X0_lay
theorem hB_X0_offerPieces : jB 2 = cX0_offerPieces := rfl
theorem hO_X0_offerPieces : jO 2 = 0 := rfl
theorem hR_X0_offerPieces : jRt 2 = none := rfl
theorem nX0_offerPieces (d : Nat) (x0 : Nat) (x1 : Int32) (x2 : Int32) (x3 : Nat) (m : jmM) (Q : Option Value → jmM → Prop) : CC (d + 1) 2 [.ref x0, .int x1, .int x2, .ref x3] m Q ↔ AW d 2 0 [some (.ref x0), some (.int x1), some (.int x2), some (.ref x3), none, none, none, none] [] m Q := CC_body (Nat.le_of_ble_eq_true rfl)
theorem dX0_offerPieces_0 : decode cX0_offerPieces 0 = .ok (.iload_n 2, 1) := by decide +kernel
theorem tX0_offerPieces_0 {d : Nat} {l0 l1 l3 l4 l5 l6 l7 : Option Value} {x : Int32} {m : jmM} {Q : Option Value → jmM → Prop} : AW d 2 0 [l0, l1, some (.int x), l3, l4, l5, l6, l7] [] m Q ↔ AW d 2 1 [l0, l1, some (.int x), l3, l4, l5, l6, l7] [.int x] m Q := A_iload_n hB_X0_offerPieces dX0_offerPieces_0 rfl
theorem dX0_offerPieces_1 : decode cX0_offerPieces 1 = .ok (.ifCond .lt 18, 3) := by decide +kernel
theorem tX0_offerPieces_1 {d : Nat} {l0 l1 l2 l3 l4 l5 l6 l7 : Option Value} {x : Int32} {m : jmM} {Q : Option Value → jmM → Prop} : AW d 2 1 [l0, l1, l2, l3, l4, l5, l6, l7] [.int x] m Q ↔ if x < 0 then AW d 2 19 [l0, l1, l2, l3, l4, l5, l6, l7] [] m Q else AW d 2 4 [l0, l1, l2, l3, l4, l5, l6, l7] [] m Q := A_if_lt hB_X0_offerPieces dX0_offerPieces_1 (by decide)
theorem dX0_offerPieces_4 : decode cX0_offerPieces 4 = .ok (.iload_n 2, 1) := by decide +kernel
theorem tX0_offerPieces_4 {d : Nat} {l0 l1 l3 l4 l5 l6 l7 : Option Value} {x : Int32} {m : jmM} {Q : Option Value → jmM → Prop} : AW d 2 4 [l0, l1, some (.int x), l3, l4, l5, l6, l7] [] m Q ↔ AW d 2 5 [l0, l1, some (.int x), l3, l4, l5, l6, l7] [.int x] m Q := A_iload_n hB_X0_offerPieces dX0_offerPieces_4 rfl
theorem dX0_offerPieces_5 : decode cX0_offerPieces 5 = .ok (.bipush 8, 2) := by decide +kernel
theorem tX0_offerPieces_5 {d : Nat} {l0 l1 l2 l3 l4 l5 l6 l7 : Option Value} {v0 : Value} {m : jmM} {Q : Option Value → jmM → Prop} : AW d 2 5 [l0, l1, l2, l3, l4, l5, l6, l7] [v0] m Q ↔ AW d 2 7 [l0, l1, l2, l3, l4, l5, l6, l7] [.int 8, v0] m Q := A_bipush hB_X0_offerPieces dX0_offerPieces_5 rfl
theorem dX0_offerPieces_7 : decode cX0_offerPieces 7 = .ok (.if_icmp .ge 12, 3) := by decide +kernel
theorem tX0_offerPieces_7 {d : Nat} {l0 l1 l2 l3 l4 l5 l6 l7 : Option Value} {x y : Int32} {m : jmM} {Q : Option Value → jmM → Prop} : AW d 2 7 [l0, l1, l2, l3, l4, l5, l6, l7] [.int y, .int x] m Q ↔ if y ≤ x then AW d 2 19 [l0, l1, l2, l3, l4, l5, l6, l7] [] m Q else AW d 2 10 [l0, l1, l2, l3, l4, l5, l6, l7] [] m Q := A_icmp_ge hB_X0_offerPieces dX0_offerPieces_7 (by decide)
theorem dX0_offerPieces_10 : decode cX0_offerPieces 10 = .ok (.aload_n 0, 1) := by decide +kernel
theorem tX0_offerPieces_10 {d : Nat} {l1 l2 l3 l4 l5 l6 l7 : Option Value} {x : Nat} {m : jmM} {Q : Option Value → jmM → Prop} : AW d 2 10 [some (.ref x), l1, l2, l3, l4, l5, l6, l7] [] m Q ↔ AW d 2 11 [some (.ref x), l1, l2, l3, l4, l5, l6, l7] [.ref x] m Q := A_aload_n hB_X0_offerPieces dX0_offerPieces_10 rfl
theorem dX0_offerPieces_11 : decode cX0_offerPieces 11 = .ok (.getfield 24, 3) := by decide +kernel
theorem tX0_offerPieces_11 {d : Nat} {l0 l1 l2 l3 l4 l5 l6 l7 : Option Value} {a : Nat} {m : jmM} {Q : Option Value → jmM → Prop} : AW d 2 11 [l0, l1, l2, l3, l4, l5, l6, l7] [.ref a] m Q ↔ (mS m a).1 = 0 ∧ AW d 2 14 [l0, l1, l2, l3, l4, l5, l6, l7] [va_rf (mR m a 4)] m Q := A_getfield (f := fun m a => va_rf (mR m a 4)) hB_X0_offerPieces dX0_offerPieces_11 hO_X0_offerPieces fF_0_24 rfl
theorem dX0_offerPieces_14 : decode cX0_offerPieces 14 = .ok (.iload_n 2, 1) := by decide +kernel
theorem tX0_offerPieces_14 {d : Nat} {l0 l1 l3 l4 l5 l6 l7 : Option Value} {v0 : Value} {x : Int32} {m : jmM} {Q : Option Value → jmM → Prop} : AW d 2 14 [l0, l1, some (.int x), l3, l4, l5, l6, l7] [v0] m Q ↔ AW d 2 15 [l0, l1, some (.int x), l3, l4, l5, l6, l7] [.int x, v0] m Q := A_iload_n hB_X0_offerPieces dX0_offerPieces_14 rfl
theorem dX0_offerPieces_15 : decode cX0_offerPieces 15 = .ok (.iaload, 1) := by decide +kernel
theorem tX0_offerPieces_15 {d : Nat} {l0 l1 l2 l3 l4 l5 l6 l7 : Option Value} {i : Int32} {a : Nat} {m : jmM} {Q : Option Value → jmM → Prop} : AW d 2 15 [l0, l1, l2, l3, l4, l5, l6, l7] [.int i, .ref a] m Q ↔ (((mS m a).1 = 20 ∨ a = jScr) ∧ jIx i (mS m a).2) ∧ AW d 2 16 [l0, l1, l2, l3, l4, l5, l6, l7] [.int (mI m a (jx i))] m Q := A_iaload hB_X0_offerPieces dX0_offerPieces_15
theorem dX0_offerPieces_16 : decode cX0_offerPieces 16 = .ok (.goto 4, 3) := by decide +kernel
theorem tX0_offerPieces_16 {d : Nat} {l0 l1 l2 l3 l4 l5 l6 l7 : Option Value} {v0 : Value} {m : jmM} {Q : Option Value → jmM → Prop} : AW d 2 16 [l0, l1, l2, l3, l4, l5, l6, l7] [v0] m Q ↔ AW d 2 20 [l0, l1, l2, l3, l4, l5, l6, l7] [v0] m Q := A_goto hB_X0_offerPieces dX0_offerPieces_16 (by decide)
theorem dX0_offerPieces_19 : decode cX0_offerPieces 19 = .ok (.iload_n 1, 1) := by decide +kernel
theorem tX0_offerPieces_19 {d : Nat} {l0 l2 l3 l4 l5 l6 l7 : Option Value} {x : Int32} {m : jmM} {Q : Option Value → jmM → Prop} : AW d 2 19 [l0, some (.int x), l2, l3, l4, l5, l6, l7] [] m Q ↔ AW d 2 20 [l0, some (.int x), l2, l3, l4, l5, l6, l7] [.int x] m Q := A_iload_n hB_X0_offerPieces dX0_offerPieces_19 rfl
theorem dX0_offerPieces_20 : decode cX0_offerPieces 20 = .ok (.istore 4, 2) := by decide +kernel
theorem tX0_offerPieces_20 {d : Nat} {l0 l1 l2 l3 l4 l5 l6 l7 : Option Value} {x : Int32} {m : jmM} {Q : Option Value → jmM → Prop} : AW d 2 20 [l0, l1, l2, l3, l4, l5, l6, l7] [.int x] m Q ↔ AW d 2 22 [l0, l1, l2, jc1 l3, some (.int x), l5, l6, l7] [] m Q := A_istore hB_X0_offerPieces dX0_offerPieces_20 (Nat.le_of_ble_eq_true rfl) rfl
theorem dX0_offerPieces_22 : decode cX0_offerPieces 22 = .ok (.iconst (-1), 1) := by decide +kernel
theorem tX0_offerPieces_22 {d : Nat} {l0 l1 l2 l3 l4 l5 l6 l7 : Option Value} {m : jmM} {Q : Option Value → jmM → Prop} : AW d 2 22 [l0, l1, l2, l3, l4, l5, l6, l7] [] m Q ↔ AW d 2 23 [l0, l1, l2, l3, l4, l5, l6, l7] [.int (-1)] m Q := A_iconst hB_X0_offerPieces dX0_offerPieces_22 (by decide)
theorem dX0_offerPieces_23 : decode cX0_offerPieces 23 = .ok (.istore 5, 2) := by decide +kernel
theorem tX0_offerPieces_23 {d : Nat} {l0 l1 l2 l3 l4 l5 l6 l7 : Option Value} {x : Int32} {m : jmM} {Q : Option Value → jmM → Prop} : AW d 2 23 [l0, l1, l2, l3, l4, l5, l6, l7] [.int x] m Q ↔ AW d 2 25 [l0, l1, l2, l3, jc1 l4, some (.int x), l6, l7] [] m Q := A_istore hB_X0_offerPieces dX0_offerPieces_23 (Nat.le_of_ble_eq_true rfl) rfl
theorem dX0_offerPieces_25 : decode cX0_offerPieces 25 = .ok (.iload_n 1, 1) := by decide +kernel
theorem tX0_offerPieces_25 {d : Nat} {l0 l2 l3 l4 l5 l6 l7 : Option Value} {x : Int32} {m : jmM} {Q : Option Value → jmM → Prop} : AW d 2 25 [l0, some (.int x), l2, l3, l4, l5, l6, l7] [] m Q ↔ AW d 2 26 [l0, some (.int x), l2, l3, l4, l5, l6, l7] [.int x] m Q := A_iload_n hB_X0_offerPieces dX0_offerPieces_25 rfl
theorem dX0_offerPieces_26 : decode cX0_offerPieces 26 = .ok (.iconst 1, 1) := by decide +kernel
theorem tX0_offerPieces_26 {d : Nat} {l0 l1 l2 l3 l4 l5 l6 l7 : Option Value} {v0 : Value} {m : jmM} {Q : Option Value → jmM → Prop} : AW d 2 26 [l0, l1, l2, l3, l4, l5, l6, l7] [v0] m Q ↔ AW d 2 27 [l0, l1, l2, l3, l4, l5, l6, l7] [.int 1, v0] m Q := A_iconst hB_X0_offerPieces dX0_offerPieces_26 (by decide)
theorem dX0_offerPieces_27 : decode cX0_offerPieces 27 = .ok (.iadd, 1) := by decide +kernel
theorem tX0_offerPieces_27 {d : Nat} {l0 l1 l2 l3 l4 l5 l6 l7 : Option Value} {x y : Int32} {m : jmM} {Q : Option Value → jmM → Prop} : AW d 2 27 [l0, l1, l2, l3, l4, l5, l6, l7] [.int y, .int x] m Q ↔ AW d 2 28 [l0, l1, l2, l3, l4, l5, l6, l7] [.int (x + y)] m Q := A_iadd hB_X0_offerPieces dX0_offerPieces_27
theorem dX0_offerPieces_28 : decode cX0_offerPieces 28 = .ok (.istore 6, 2) := by decide +kernel
theorem tX0_offerPieces_28 {d : Nat} {l0 l1 l2 l3 l4 l5 l6 l7 : Option Value} {x : Int32} {m : jmM} {Q : Option Value → jmM → Prop} : AW d 2 28 [l0, l1, l2, l3, l4, l5, l6, l7] [.int x] m Q ↔ AW d 2 30 [l0, l1, l2, l3, l4, jc1 l5, some (.int x), l7] [] m Q := A_istore hB_X0_offerPieces dX0_offerPieces_28 (Nat.le_of_ble_eq_true rfl) rfl
theorem dX0_offerPieces_30 : decode cX0_offerPieces 30 = .ok (.iload 6, 2) := by decide +kernel
theorem tX0_offerPieces_30 {d : Nat} {l0 l1 l2 l3 l4 l5 l7 : Option Value} {x : Int32} {m : jmM} {Q : Option Value → jmM → Prop} : AW d 2 30 [l0, l1, l2, l3, l4, l5, some (.int x), l7] [] m Q ↔ AW d 2 32 [l0, l1, l2, l3, l4, l5, some (.int x), l7] [.int x] m Q := A_iload hB_X0_offerPieces dX0_offerPieces_30 rfl
theorem dX0_offerPieces_32 : decode cX0_offerPieces 32 = .ok (.iload 4, 2) := by decide +kernel
theorem tX0_offerPieces_32 {d : Nat} {l0 l1 l2 l3 l5 l6 l7 : Option Value} {v0 : Value} {x : Int32} {m : jmM} {Q : Option Value → jmM → Prop} : AW d 2 32 [l0, l1, l2, l3, some (.int x), l5, l6, l7] [v0] m Q ↔ AW d 2 34 [l0, l1, l2, l3, some (.int x), l5, l6, l7] [.int x, v0] m Q := A_iload hB_X0_offerPieces dX0_offerPieces_32 rfl
theorem dX0_offerPieces_34 : decode cX0_offerPieces 34 = .ok (.if_icmp .gt 112, 3) := by decide +kernel
theorem tX0_offerPieces_34 {d : Nat} {l0 l1 l2 l3 l4 l5 l6 l7 : Option Value} {x y : Int32} {m : jmM} {Q : Option Value → jmM → Prop} : AW d 2 34 [l0, l1, l2, l3, l4, l5, l6, l7] [.int y, .int x] m Q ↔ if y < x then AW d 2 146 [l0, l1, l2, l3, l4, l5, l6, l7] [] m Q else AW d 2 37 [l0, l1, l2, l3, l4, l5, l6, l7] [] m Q := A_icmp_gt hB_X0_offerPieces dX0_offerPieces_34 (by decide)
theorem dX0_offerPieces_37 : decode cX0_offerPieces 37 = .ok (.iload 6, 2) := by decide +kernel
theorem tX0_offerPieces_37 {d : Nat} {l0 l1 l2 l3 l4 l5 l7 : Option Value} {x : Int32} {m : jmM} {Q : Option Value → jmM → Prop} : AW d 2 37 [l0, l1, l2, l3, l4, l5, some (.int x), l7] [] m Q ↔ AW d 2 39 [l0, l1, l2, l3, l4, l5, some (.int x), l7] [.int x] m Q := A_iload hB_X0_offerPieces dX0_offerPieces_37 rfl
theorem dX0_offerPieces_39 : decode cX0_offerPieces 39 = .ok (.aload_n 0, 1) := by decide +kernel
theorem tX0_offerPieces_39 {d : Nat} {l1 l2 l3 l4 l5 l6 l7 : Option Value} {v0 : Value} {x : Nat} {m : jmM} {Q : Option Value → jmM → Prop} : AW d 2 39 [some (.ref x), l1, l2, l3, l4, l5, l6, l7] [v0] m Q ↔ AW d 2 40 [some (.ref x), l1, l2, l3, l4, l5, l6, l7] [.ref x, v0] m Q := A_aload_n hB_X0_offerPieces dX0_offerPieces_39 rfl
theorem dX0_offerPieces_40 : decode cX0_offerPieces 40 = .ok (.getfield 27, 3) := by decide +kernel
theorem tX0_offerPieces_40 {d : Nat} {l0 l1 l2 l3 l4 l5 l6 l7 : Option Value} {v1 : Value} {a : Nat} {m : jmM} {Q : Option Value → jmM → Prop} : AW d 2 40 [l0, l1, l2, l3, l4, l5, l6, l7] [.ref a, v1] m Q ↔ (mS m a).1 = 0 ∧ AW d 2 43 [l0, l1, l2, l3, l4, l5, l6, l7] [.int (mI m a 5), v1] m Q := A_getfield (f := fun m a => .int (mI m a 5)) hB_X0_offerPieces dX0_offerPieces_40 hO_X0_offerPieces fF_0_27 rfl
theorem dX0_offerPieces_43 : decode cX0_offerPieces 43 = .ok (.if_icmp .gt 103, 3) := by decide +kernel
theorem tX0_offerPieces_43 {d : Nat} {l0 l1 l2 l3 l4 l5 l6 l7 : Option Value} {x y : Int32} {m : jmM} {Q : Option Value → jmM → Prop} : AW d 2 43 [l0, l1, l2, l3, l4, l5, l6, l7] [.int y, .int x] m Q ↔ if y < x then AW d 2 146 [l0, l1, l2, l3, l4, l5, l6, l7] [] m Q else AW d 2 46 [l0, l1, l2, l3, l4, l5, l6, l7] [] m Q := A_icmp_gt hB_X0_offerPieces dX0_offerPieces_43 (by decide)
theorem dX0_offerPieces_46 : decode cX0_offerPieces 46 = .ok (.aload_n 0, 1) := by decide +kernel
theorem tX0_offerPieces_46 {d : Nat} {l1 l2 l3 l4 l5 l6 l7 : Option Value} {x : Nat} {m : jmM} {Q : Option Value → jmM → Prop} : AW d 2 46 [some (.ref x), l1, l2, l3, l4, l5, l6, l7] [] m Q ↔ AW d 2 47 [some (.ref x), l1, l2, l3, l4, l5, l6, l7] [.ref x] m Q := A_aload_n hB_X0_offerPieces dX0_offerPieces_46 rfl
theorem dX0_offerPieces_47 : decode cX0_offerPieces 47 = .ok (.getfield 21, 3) := by decide +kernel
theorem tX0_offerPieces_47 {d : Nat} {l0 l1 l2 l3 l4 l5 l6 l7 : Option Value} {a : Nat} {m : jmM} {Q : Option Value → jmM → Prop} : AW d 2 47 [l0, l1, l2, l3, l4, l5, l6, l7] [.ref a] m Q ↔ (mS m a).1 = 0 ∧ AW d 2 50 [l0, l1, l2, l3, l4, l5, l6, l7] [va_rf (mR m a 3)] m Q := A_getfield (f := fun m a => va_rf (mR m a 3)) hB_X0_offerPieces dX0_offerPieces_47 hO_X0_offerPieces fF_0_21 rfl
theorem dX0_offerPieces_50 : decode cX0_offerPieces 50 = .ok (.iload 6, 2) := by decide +kernel
theorem tX0_offerPieces_50 {d : Nat} {l0 l1 l2 l3 l4 l5 l7 : Option Value} {v0 : Value} {x : Int32} {m : jmM} {Q : Option Value → jmM → Prop} : AW d 2 50 [l0, l1, l2, l3, l4, l5, some (.int x), l7] [v0] m Q ↔ AW d 2 52 [l0, l1, l2, l3, l4, l5, some (.int x), l7] [.int x, v0] m Q := A_iload hB_X0_offerPieces dX0_offerPieces_50 rfl
theorem dX0_offerPieces_52 : decode cX0_offerPieces 52 = .ok (.iaload, 1) := by decide +kernel
theorem tX0_offerPieces_52 {d : Nat} {l0 l1 l2 l3 l4 l5 l6 l7 : Option Value} {i : Int32} {a : Nat} {m : jmM} {Q : Option Value → jmM → Prop} : AW d 2 52 [l0, l1, l2, l3, l4, l5, l6, l7] [.int i, .ref a] m Q ↔ (((mS m a).1 = 20 ∨ a = jScr) ∧ jIx i (mS m a).2) ∧ AW d 2 53 [l0, l1, l2, l3, l4, l5, l6, l7] [.int (mI m a (jx i))] m Q := A_iaload hB_X0_offerPieces dX0_offerPieces_52
theorem dX0_offerPieces_53 : decode cX0_offerPieces 53 = .ok (.aload_n 0, 1) := by decide +kernel
theorem tX0_offerPieces_53 {d : Nat} {l1 l2 l3 l4 l5 l6 l7 : Option Value} {v0 : Value} {x : Nat} {m : jmM} {Q : Option Value → jmM → Prop} : AW d 2 53 [some (.ref x), l1, l2, l3, l4, l5, l6, l7] [v0] m Q ↔ AW d 2 54 [some (.ref x), l1, l2, l3, l4, l5, l6, l7] [.ref x, v0] m Q := A_aload_n hB_X0_offerPieces dX0_offerPieces_53 rfl
theorem dX0_offerPieces_54 : decode cX0_offerPieces 54 = .ok (.getfield 21, 3) := by decide +kernel
theorem tX0_offerPieces_54 {d : Nat} {l0 l1 l2 l3 l4 l5 l6 l7 : Option Value} {v1 : Value} {a : Nat} {m : jmM} {Q : Option Value → jmM → Prop} : AW d 2 54 [l0, l1, l2, l3, l4, l5, l6, l7] [.ref a, v1] m Q ↔ (mS m a).1 = 0 ∧ AW d 2 57 [l0, l1, l2, l3, l4, l5, l6, l7] [va_rf (mR m a 3), v1] m Q := A_getfield (f := fun m a => va_rf (mR m a 3)) hB_X0_offerPieces dX0_offerPieces_54 hO_X0_offerPieces fF_0_21 rfl
theorem dX0_offerPieces_57 : decode cX0_offerPieces 57 = .ok (.iload_n 1, 1) := by decide +kernel
theorem tX0_offerPieces_57 {d : Nat} {l0 l2 l3 l4 l5 l6 l7 : Option Value} {v0 v1 : Value} {x : Int32} {m : jmM} {Q : Option Value → jmM → Prop} : AW d 2 57 [l0, some (.int x), l2, l3, l4, l5, l6, l7] [v0, v1] m Q ↔ AW d 2 58 [l0, some (.int x), l2, l3, l4, l5, l6, l7] [.int x, v0, v1] m Q := A_iload_n hB_X0_offerPieces dX0_offerPieces_57 rfl
theorem dX0_offerPieces_58 : decode cX0_offerPieces 58 = .ok (.iaload, 1) := by decide +kernel
theorem tX0_offerPieces_58 {d : Nat} {l0 l1 l2 l3 l4 l5 l6 l7 : Option Value} {v2 : Value} {i : Int32} {a : Nat} {m : jmM} {Q : Option Value → jmM → Prop} : AW d 2 58 [l0, l1, l2, l3, l4, l5, l6, l7] [.int i, .ref a, v2] m Q ↔ (((mS m a).1 = 20 ∨ a = jScr) ∧ jIx i (mS m a).2) ∧ AW d 2 59 [l0, l1, l2, l3, l4, l5, l6, l7] [.int (mI m a (jx i)), v2] m Q := A_iaload hB_X0_offerPieces dX0_offerPieces_58
theorem dX0_offerPieces_59 : decode cX0_offerPieces 59 = .ok (.isub, 1) := by decide +kernel
theorem tX0_offerPieces_59 {d : Nat} {l0 l1 l2 l3 l4 l5 l6 l7 : Option Value} {x y : Int32} {m : jmM} {Q : Option Value → jmM → Prop} : AW d 2 59 [l0, l1, l2, l3, l4, l5, l6, l7] [.int y, .int x] m Q ↔ AW d 2 60 [l0, l1, l2, l3, l4, l5, l6, l7] [.int (x - y)] m Q := A_isub hB_X0_offerPieces dX0_offerPieces_59
theorem dX0_offerPieces_60 : decode cX0_offerPieces 60 = .ok (.istore 7, 2) := by decide +kernel
theorem tX0_offerPieces_60 {d : Nat} {l0 l1 l2 l3 l4 l5 l6 l7 : Option Value} {x : Int32} {m : jmM} {Q : Option Value → jmM → Prop} : AW d 2 60 [l0, l1, l2, l3, l4, l5, l6, l7] [.int x] m Q ↔ AW d 2 62 [l0, l1, l2, l3, l4, l5, jc1 l6, some (.int x)] [] m Q := A_istore hB_X0_offerPieces dX0_offerPieces_60 (Nat.le_of_ble_eq_true rfl) rfl
theorem dX0_offerPieces_62 : decode cX0_offerPieces 62 = .ok (.iload 5, 2) := by decide +kernel
theorem tX0_offerPieces_62 {d : Nat} {l0 l1 l2 l3 l4 l6 l7 : Option Value} {x : Int32} {m : jmM} {Q : Option Value → jmM → Prop} : AW d 2 62 [l0, l1, l2, l3, l4, some (.int x), l6, l7] [] m Q ↔ AW d 2 64 [l0, l1, l2, l3, l4, some (.int x), l6, l7] [.int x] m Q := A_iload hB_X0_offerPieces dX0_offerPieces_62 rfl
theorem dX0_offerPieces_64 : decode cX0_offerPieces 64 = .ok (.iconst (-1), 1) := by decide +kernel
theorem tX0_offerPieces_64 {d : Nat} {l0 l1 l2 l3 l4 l5 l6 l7 : Option Value} {v0 : Value} {m : jmM} {Q : Option Value → jmM → Prop} : AW d 2 64 [l0, l1, l2, l3, l4, l5, l6, l7] [v0] m Q ↔ AW d 2 65 [l0, l1, l2, l3, l4, l5, l6, l7] [.int (-1), v0] m Q := A_iconst hB_X0_offerPieces dX0_offerPieces_64 (by decide)
theorem dX0_offerPieces_65 : decode cX0_offerPieces 65 = .ok (.if_icmp .eq 26, 3) := by decide +kernel
theorem tX0_offerPieces_65 {d : Nat} {l0 l1 l2 l3 l4 l5 l6 l7 : Option Value} {x y : Int32} {m : jmM} {Q : Option Value → jmM → Prop} : AW d 2 65 [l0, l1, l2, l3, l4, l5, l6, l7] [.int y, .int x] m Q ↔ if x = y then AW d 2 91 [l0, l1, l2, l3, l4, l5, l6, l7] [] m Q else AW d 2 68 [l0, l1, l2, l3, l4, l5, l6, l7] [] m Q := A_icmp_eq hB_X0_offerPieces dX0_offerPieces_65 (by decide)
theorem dX0_offerPieces_68 : decode cX0_offerPieces 68 = .ok (.aload_n 0, 1) := by decide +kernel
theorem tX0_offerPieces_68 {d : Nat} {l1 l2 l3 l4 l5 l6 l7 : Option Value} {x : Nat} {m : jmM} {Q : Option Value → jmM → Prop} : AW d 2 68 [some (.ref x), l1, l2, l3, l4, l5, l6, l7] [] m Q ↔ AW d 2 69 [some (.ref x), l1, l2, l3, l4, l5, l6, l7] [.ref x] m Q := A_aload_n hB_X0_offerPieces dX0_offerPieces_68 rfl
theorem dX0_offerPieces_69 : decode cX0_offerPieces 69 = .ok (.getfield 21, 3) := by decide +kernel
theorem tX0_offerPieces_69 {d : Nat} {l0 l1 l2 l3 l4 l5 l6 l7 : Option Value} {a : Nat} {m : jmM} {Q : Option Value → jmM → Prop} : AW d 2 69 [l0, l1, l2, l3, l4, l5, l6, l7] [.ref a] m Q ↔ (mS m a).1 = 0 ∧ AW d 2 72 [l0, l1, l2, l3, l4, l5, l6, l7] [va_rf (mR m a 3)] m Q := A_getfield (f := fun m a => va_rf (mR m a 3)) hB_X0_offerPieces dX0_offerPieces_69 hO_X0_offerPieces fF_0_21 rfl
theorem dX0_offerPieces_72 : decode cX0_offerPieces 72 = .ok (.iload 6, 2) := by decide +kernel
theorem tX0_offerPieces_72 {d : Nat} {l0 l1 l2 l3 l4 l5 l7 : Option Value} {v0 : Value} {x : Int32} {m : jmM} {Q : Option Value → jmM → Prop} : AW d 2 72 [l0, l1, l2, l3, l4, l5, some (.int x), l7] [v0] m Q ↔ AW d 2 74 [l0, l1, l2, l3, l4, l5, some (.int x), l7] [.int x, v0] m Q := A_iload hB_X0_offerPieces dX0_offerPieces_72 rfl
theorem dX0_offerPieces_74 : decode cX0_offerPieces 74 = .ok (.iaload, 1) := by decide +kernel
theorem tX0_offerPieces_74 {d : Nat} {l0 l1 l2 l3 l4 l5 l6 l7 : Option Value} {i : Int32} {a : Nat} {m : jmM} {Q : Option Value → jmM → Prop} : AW d 2 74 [l0, l1, l2, l3, l4, l5, l6, l7] [.int i, .ref a] m Q ↔ (((mS m a).1 = 20 ∨ a = jScr) ∧ jIx i (mS m a).2) ∧ AW d 2 75 [l0, l1, l2, l3, l4, l5, l6, l7] [.int (mI m a (jx i))] m Q := A_iaload hB_X0_offerPieces dX0_offerPieces_74
theorem dX0_offerPieces_75 : decode cX0_offerPieces 75 = .ok (.aload_n 0, 1) := by decide +kernel
theorem tX0_offerPieces_75 {d : Nat} {l1 l2 l3 l4 l5 l6 l7 : Option Value} {v0 : Value} {x : Nat} {m : jmM} {Q : Option Value → jmM → Prop} : AW d 2 75 [some (.ref x), l1, l2, l3, l4, l5, l6, l7] [v0] m Q ↔ AW d 2 76 [some (.ref x), l1, l2, l3, l4, l5, l6, l7] [.ref x, v0] m Q := A_aload_n hB_X0_offerPieces dX0_offerPieces_75 rfl
theorem dX0_offerPieces_76 : decode cX0_offerPieces 76 = .ok (.getfield 21, 3) := by decide +kernel
theorem tX0_offerPieces_76 {d : Nat} {l0 l1 l2 l3 l4 l5 l6 l7 : Option Value} {v1 : Value} {a : Nat} {m : jmM} {Q : Option Value → jmM → Prop} : AW d 2 76 [l0, l1, l2, l3, l4, l5, l6, l7] [.ref a, v1] m Q ↔ (mS m a).1 = 0 ∧ AW d 2 79 [l0, l1, l2, l3, l4, l5, l6, l7] [va_rf (mR m a 3), v1] m Q := A_getfield (f := fun m a => va_rf (mR m a 3)) hB_X0_offerPieces dX0_offerPieces_76 hO_X0_offerPieces fF_0_21 rfl
theorem dX0_offerPieces_79 : decode cX0_offerPieces 79 = .ok (.iload 5, 2) := by decide +kernel
theorem tX0_offerPieces_79 {d : Nat} {l0 l1 l2 l3 l4 l6 l7 : Option Value} {v0 v1 : Value} {x : Int32} {m : jmM} {Q : Option Value → jmM → Prop} : AW d 2 79 [l0, l1, l2, l3, l4, some (.int x), l6, l7] [v0, v1] m Q ↔ AW d 2 81 [l0, l1, l2, l3, l4, some (.int x), l6, l7] [.int x, v0, v1] m Q := A_iload hB_X0_offerPieces dX0_offerPieces_79 rfl
theorem dX0_offerPieces_81 : decode cX0_offerPieces 81 = .ok (.iaload, 1) := by decide +kernel
theorem tX0_offerPieces_81 {d : Nat} {l0 l1 l2 l3 l4 l5 l6 l7 : Option Value} {v2 : Value} {i : Int32} {a : Nat} {m : jmM} {Q : Option Value → jmM → Prop} : AW d 2 81 [l0, l1, l2, l3, l4, l5, l6, l7] [.int i, .ref a, v2] m Q ↔ (((mS m a).1 = 20 ∨ a = jScr) ∧ jIx i (mS m a).2) ∧ AW d 2 82 [l0, l1, l2, l3, l4, l5, l6, l7] [.int (mI m a (jx i)), v2] m Q := A_iaload hB_X0_offerPieces dX0_offerPieces_81
theorem dX0_offerPieces_82 : decode cX0_offerPieces 82 = .ok (.isub, 1) := by decide +kernel
theorem tX0_offerPieces_82 {d : Nat} {l0 l1 l2 l3 l4 l5 l6 l7 : Option Value} {x y : Int32} {m : jmM} {Q : Option Value → jmM → Prop} : AW d 2 82 [l0, l1, l2, l3, l4, l5, l6, l7] [.int y, .int x] m Q ↔ AW d 2 83 [l0, l1, l2, l3, l4, l5, l6, l7] [.int (x - y)] m Q := A_isub hB_X0_offerPieces dX0_offerPieces_82
theorem dX0_offerPieces_83 : decode cX0_offerPieces 83 = .ok (.aload_n 3, 1) := by decide +kernel
theorem tX0_offerPieces_83 {d : Nat} {l0 l1 l2 l4 l5 l6 l7 : Option Value} {v0 : Value} {x : Nat} {m : jmM} {Q : Option Value → jmM → Prop} : AW d 2 83 [l0, l1, l2, some (.ref x), l4, l5, l6, l7] [v0] m Q ↔ AW d 2 84 [l0, l1, l2, some (.ref x), l4, l5, l6, l7] [.ref x, v0] m Q := A_aload_n hB_X0_offerPieces dX0_offerPieces_83 rfl
theorem dX0_offerPieces_84 : decode cX0_offerPieces 84 = .ok (.invokevirtual 62, 3) := by decide +kernel
theorem tX0_offerPieces_84 {d : Nat} {l0 l1 l2 l3 l4 l5 l6 l7 : Option Value} {v1 : Value} {a : Nat} {m : jmM} {Q : Option Value → jmM → Prop} : AW d 2 84 [l0, l1, l2, l3, l4, l5, l6, l7] [.ref a, v1] m Q ↔ (mS m a).1 = 10 ∧ CC d 137 [.ref a] m (jK d 2 87 [l0, l1, l2, l3, l4, l5, l6, l7] [v1] Q) := A_callV hB_X0_offerPieces dX0_offerPieces_84 hO_X0_offerPieces fS_0_62 ⟨Nat.le_of_ble_eq_true rfl, Nat.le_of_ble_eq_true rfl⟩ rfl rfl rfl
theorem dX0_offerPieces_87 : decode cX0_offerPieces 87 = .ok (.if_icmp .lt 4, 3) := by decide +kernel
theorem tX0_offerPieces_87 {d : Nat} {l0 l1 l2 l3 l4 l5 l6 l7 : Option Value} {x y : Int32} {m : jmM} {Q : Option Value → jmM → Prop} : AW d 2 87 [l0, l1, l2, l3, l4, l5, l6, l7] [.int y, .int x] m Q ↔ if x < y then AW d 2 91 [l0, l1, l2, l3, l4, l5, l6, l7] [] m Q else AW d 2 90 [l0, l1, l2, l3, l4, l5, l6, l7] [] m Q := A_icmp_lt hB_X0_offerPieces dX0_offerPieces_87 (by decide)
theorem dX0_offerPieces_90 : decode cX0_offerPieces 90 = .ok (.return_, 1) := by decide +kernel
theorem tX0_offerPieces_90 {d : Nat} {l0 l1 l2 l3 l4 l5 l6 l7 : Option Value} {m : jmM} {Q : Option Value → jmM → Prop} : AW d 2 90 [l0, l1, l2, l3, l4, l5, l6, l7] [] m Q ↔ Q none m := A_return hB_X0_offerPieces dX0_offerPieces_90 hR_X0_offerPieces
theorem dX0_offerPieces_91 : decode cX0_offerPieces 91 = .ok (.iload 7, 2) := by decide +kernel
theorem tX0_offerPieces_91 {d : Nat} {l0 l1 l2 l3 l4 l5 l6 : Option Value} {x : Int32} {m : jmM} {Q : Option Value → jmM → Prop} : AW d 2 91 [l0, l1, l2, l3, l4, l5, l6, some (.int x)] [] m Q ↔ AW d 2 93 [l0, l1, l2, l3, l4, l5, l6, some (.int x)] [.int x] m Q := A_iload hB_X0_offerPieces dX0_offerPieces_91 rfl
theorem dX0_offerPieces_93 : decode cX0_offerPieces 93 = .ok (.aload_n 3, 1) := by decide +kernel
theorem tX0_offerPieces_93 {d : Nat} {l0 l1 l2 l4 l5 l6 l7 : Option Value} {v0 : Value} {x : Nat} {m : jmM} {Q : Option Value → jmM → Prop} : AW d 2 93 [l0, l1, l2, some (.ref x), l4, l5, l6, l7] [v0] m Q ↔ AW d 2 94 [l0, l1, l2, some (.ref x), l4, l5, l6, l7] [.ref x, v0] m Q := A_aload_n hB_X0_offerPieces dX0_offerPieces_93 rfl
theorem dX0_offerPieces_94 : decode cX0_offerPieces 94 = .ok (.invokevirtual 62, 3) := by decide +kernel
theorem tX0_offerPieces_94 {d : Nat} {l0 l1 l2 l3 l4 l5 l6 l7 : Option Value} {v1 : Value} {a : Nat} {m : jmM} {Q : Option Value → jmM → Prop} : AW d 2 94 [l0, l1, l2, l3, l4, l5, l6, l7] [.ref a, v1] m Q ↔ (mS m a).1 = 10 ∧ CC d 137 [.ref a] m (jK d 2 97 [l0, l1, l2, l3, l4, l5, l6, l7] [v1] Q) := A_callV hB_X0_offerPieces dX0_offerPieces_94 hO_X0_offerPieces fS_0_62 ⟨Nat.le_of_ble_eq_true rfl, Nat.le_of_ble_eq_true rfl⟩ rfl rfl rfl
theorem dX0_offerPieces_97 : decode cX0_offerPieces 97 = .ok (.if_icmp .lt 43, 3) := by decide +kernel
theorem tX0_offerPieces_97 {d : Nat} {l0 l1 l2 l3 l4 l5 l6 l7 : Option Value} {x y : Int32} {m : jmM} {Q : Option Value → jmM → Prop} : AW d 2 97 [l0, l1, l2, l3, l4, l5, l6, l7] [.int y, .int x] m Q ↔ if x < y then AW d 2 140 [l0, l1, l2, l3, l4, l5, l6, l7] [] m Q else AW d 2 100 [l0, l1, l2, l3, l4, l5, l6, l7] [] m Q := A_icmp_lt hB_X0_offerPieces dX0_offerPieces_97 (by decide)
theorem dX0_offerPieces_100 : decode cX0_offerPieces 100 = .ok (.iload 5, 2) := by decide +kernel
theorem tX0_offerPieces_100 {d : Nat} {l0 l1 l2 l3 l4 l6 l7 : Option Value} {x : Int32} {m : jmM} {Q : Option Value → jmM → Prop} : AW d 2 100 [l0, l1, l2, l3, l4, some (.int x), l6, l7] [] m Q ↔ AW d 2 102 [l0, l1, l2, l3, l4, some (.int x), l6, l7] [.int x] m Q := A_iload hB_X0_offerPieces dX0_offerPieces_100 rfl
theorem dX0_offerPieces_102 : decode cX0_offerPieces 102 = .ok (.iconst (-1), 1) := by decide +kernel
theorem tX0_offerPieces_102 {d : Nat} {l0 l1 l2 l3 l4 l5 l6 l7 : Option Value} {v0 : Value} {m : jmM} {Q : Option Value → jmM → Prop} : AW d 2 102 [l0, l1, l2, l3, l4, l5, l6, l7] [v0] m Q ↔ AW d 2 103 [l0, l1, l2, l3, l4, l5, l6, l7] [.int (-1), v0] m Q := A_iconst hB_X0_offerPieces dX0_offerPieces_102 (by decide)
theorem dX0_offerPieces_103 : decode cX0_offerPieces 103 = .ok (.if_icmp .ne 8, 3) := by decide +kernel
theorem tX0_offerPieces_103 {d : Nat} {l0 l1 l2 l3 l4 l5 l6 l7 : Option Value} {x y : Int32} {m : jmM} {Q : Option Value → jmM → Prop} : AW d 2 103 [l0, l1, l2, l3, l4, l5, l6, l7] [.int y, .int x] m Q ↔ if x = y then AW d 2 106 [l0, l1, l2, l3, l4, l5, l6, l7] [] m Q else AW d 2 111 [l0, l1, l2, l3, l4, l5, l6, l7] [] m Q := A_icmp_ne hB_X0_offerPieces dX0_offerPieces_103 (by decide)
theorem dX0_offerPieces_106 : decode cX0_offerPieces 106 = .ok (.iload 6, 2) := by decide +kernel
theorem tX0_offerPieces_106 {d : Nat} {l0 l1 l2 l3 l4 l5 l7 : Option Value} {x : Int32} {m : jmM} {Q : Option Value → jmM → Prop} : AW d 2 106 [l0, l1, l2, l3, l4, l5, some (.int x), l7] [] m Q ↔ AW d 2 108 [l0, l1, l2, l3, l4, l5, some (.int x), l7] [.int x] m Q := A_iload hB_X0_offerPieces dX0_offerPieces_106 rfl
theorem dX0_offerPieces_108 : decode cX0_offerPieces 108 = .ok (.goto 5, 3) := by decide +kernel
theorem tX0_offerPieces_108 {d : Nat} {l0 l1 l2 l3 l4 l5 l6 l7 : Option Value} {v0 : Value} {m : jmM} {Q : Option Value → jmM → Prop} : AW d 2 108 [l0, l1, l2, l3, l4, l5, l6, l7] [v0] m Q ↔ AW d 2 113 [l0, l1, l2, l3, l4, l5, l6, l7] [v0] m Q := A_goto hB_X0_offerPieces dX0_offerPieces_108 (by decide)
theorem dX0_offerPieces_111 : decode cX0_offerPieces 111 = .ok (.iload 5, 2) := by decide +kernel
theorem tX0_offerPieces_111 {d : Nat} {l0 l1 l2 l3 l4 l6 l7 : Option Value} {x : Int32} {m : jmM} {Q : Option Value → jmM → Prop} : AW d 2 111 [l0, l1, l2, l3, l4, some (.int x), l6, l7] [] m Q ↔ AW d 2 113 [l0, l1, l2, l3, l4, some (.int x), l6, l7] [.int x] m Q := A_iload hB_X0_offerPieces dX0_offerPieces_111 rfl
theorem dX0_offerPieces_113 : decode cX0_offerPieces 113 = .ok (.istore 5, 2) := by decide +kernel
theorem tX0_offerPieces_113 {d : Nat} {l0 l1 l2 l3 l4 l5 l6 l7 : Option Value} {x : Int32} {m : jmM} {Q : Option Value → jmM → Prop} : AW d 2 113 [l0, l1, l2, l3, l4, l5, l6, l7] [.int x] m Q ↔ AW d 2 115 [l0, l1, l2, l3, jc1 l4, some (.int x), l6, l7] [] m Q := A_istore hB_X0_offerPieces dX0_offerPieces_113 (Nat.le_of_ble_eq_true rfl) rfl
theorem dX0_offerPieces_115 : decode cX0_offerPieces 115 = .ok (.aload_n 0, 1) := by decide +kernel
theorem tX0_offerPieces_115 {d : Nat} {l1 l2 l3 l4 l5 l6 l7 : Option Value} {x : Nat} {m : jmM} {Q : Option Value → jmM → Prop} : AW d 2 115 [some (.ref x), l1, l2, l3, l4, l5, l6, l7] [] m Q ↔ AW d 2 116 [some (.ref x), l1, l2, l3, l4, l5, l6, l7] [.ref x] m Q := A_aload_n hB_X0_offerPieces dX0_offerPieces_115 rfl
theorem dX0_offerPieces_116 : decode cX0_offerPieces 116 = .ok (.iload_n 1, 1) := by decide +kernel
theorem tX0_offerPieces_116 {d : Nat} {l0 l2 l3 l4 l5 l6 l7 : Option Value} {v0 : Value} {x : Int32} {m : jmM} {Q : Option Value → jmM → Prop} : AW d 2 116 [l0, some (.int x), l2, l3, l4, l5, l6, l7] [v0] m Q ↔ AW d 2 117 [l0, some (.int x), l2, l3, l4, l5, l6, l7] [.int x, v0] m Q := A_iload_n hB_X0_offerPieces dX0_offerPieces_116 rfl
theorem dX0_offerPieces_117 : decode cX0_offerPieces 117 = .ok (.iload 6, 2) := by decide +kernel
theorem tX0_offerPieces_117 {d : Nat} {l0 l1 l2 l3 l4 l5 l7 : Option Value} {v0 v1 : Value} {x : Int32} {m : jmM} {Q : Option Value → jmM → Prop} : AW d 2 117 [l0, l1, l2, l3, l4, l5, some (.int x), l7] [v0, v1] m Q ↔ AW d 2 119 [l0, l1, l2, l3, l4, l5, some (.int x), l7] [.int x, v0, v1] m Q := A_iload hB_X0_offerPieces dX0_offerPieces_117 rfl
theorem dX0_offerPieces_119 : decode cX0_offerPieces 119 = .ok (.iload_n 1, 1) := by decide +kernel
theorem tX0_offerPieces_119 {d : Nat} {l0 l2 l3 l4 l5 l6 l7 : Option Value} {v0 v1 v2 : Value} {x : Int32} {m : jmM} {Q : Option Value → jmM → Prop} : AW d 2 119 [l0, some (.int x), l2, l3, l4, l5, l6, l7] [v0, v1, v2] m Q ↔ AW d 2 120 [l0, some (.int x), l2, l3, l4, l5, l6, l7] [.int x, v0, v1, v2] m Q := A_iload_n hB_X0_offerPieces dX0_offerPieces_119 rfl
theorem dX0_offerPieces_120 : decode cX0_offerPieces 120 = .ok (.isub, 1) := by decide +kernel
theorem tX0_offerPieces_120 {d : Nat} {l0 l1 l2 l3 l4 l5 l6 l7 : Option Value} {v2 v3 : Value} {x y : Int32} {m : jmM} {Q : Option Value → jmM → Prop} : AW d 2 120 [l0, l1, l2, l3, l4, l5, l6, l7] [.int y, .int x, v2, v3] m Q ↔ AW d 2 121 [l0, l1, l2, l3, l4, l5, l6, l7] [.int (x - y), v2, v3] m Q := A_isub hB_X0_offerPieces dX0_offerPieces_120
theorem dX0_offerPieces_121 : decode cX0_offerPieces 121 = .ok (.iload_n 2, 1) := by decide +kernel
theorem tX0_offerPieces_121 {d : Nat} {l0 l1 l3 l4 l5 l6 l7 : Option Value} {v0 v1 v2 : Value} {x : Int32} {m : jmM} {Q : Option Value → jmM → Prop} : AW d 2 121 [l0, l1, some (.int x), l3, l4, l5, l6, l7] [v0, v1, v2] m Q ↔ AW d 2 122 [l0, l1, some (.int x), l3, l4, l5, l6, l7] [.int x, v0, v1, v2] m Q := A_iload_n hB_X0_offerPieces dX0_offerPieces_121 rfl
theorem dX0_offerPieces_122 : decode cX0_offerPieces 122 = .ok (.aload_n 3, 1) := by decide +kernel
theorem tX0_offerPieces_122 {d : Nat} {l0 l1 l2 l4 l5 l6 l7 : Option Value} {v0 v1 v2 v3 : Value} {x : Nat} {m : jmM} {Q : Option Value → jmM → Prop} : AW d 2 122 [l0, l1, l2, some (.ref x), l4, l5, l6, l7] [v0, v1, v2, v3] m Q ↔ AW d 2 123 [l0, l1, l2, some (.ref x), l4, l5, l6, l7] [.ref x, v0, v1, v2, v3] m Q := A_aload_n hB_X0_offerPieces dX0_offerPieces_122 rfl
theorem dX0_offerPieces_123 : decode cX0_offerPieces 123 = .ok (.invokevirtual 65, 3) := by decide +kernel
theorem tX0_offerPieces_123 {d : Nat} {l0 l1 l2 l3 l4 l5 l6 l7 : Option Value} {v1 v2 v3 v4 : Value} {a : Nat} {m : jmM} {Q : Option Value → jmM → Prop} : AW d 2 123 [l0, l1, l2, l3, l4, l5, l6, l7] [.ref a, v1, v2, v3, v4] m Q ↔ (mS m a).1 = 10 ∧ CC d 138 [.ref a] m (jK d 2 126 [l0, l1, l2, l3, l4, l5, l6, l7] [v1, v2, v3, v4] Q) := A_callV hB_X0_offerPieces dX0_offerPieces_123 hO_X0_offerPieces fS_0_65 ⟨Nat.le_of_ble_eq_true rfl, Nat.le_of_ble_eq_true rfl⟩ rfl rfl rfl
theorem dX0_offerPieces_126 : decode cX0_offerPieces 126 = .ok (.iload 7, 2) := by decide +kernel
theorem tX0_offerPieces_126 {d : Nat} {l0 l1 l2 l3 l4 l5 l6 : Option Value} {v0 v1 v2 v3 v4 : Value} {x : Int32} {m : jmM} {Q : Option Value → jmM → Prop} : AW d 2 126 [l0, l1, l2, l3, l4, l5, l6, some (.int x)] [v0, v1, v2, v3, v4] m Q ↔ AW d 2 128 [l0, l1, l2, l3, l4, l5, l6, some (.int x)] [.int x, v0, v1, v2, v3, v4] m Q := A_iload hB_X0_offerPieces dX0_offerPieces_126 rfl
theorem dX0_offerPieces_128 : decode cX0_offerPieces 128 = .ok (.imul, 1) := by decide +kernel
theorem tX0_offerPieces_128 {d : Nat} {l0 l1 l2 l3 l4 l5 l6 l7 : Option Value} {v2 v3 v4 v5 : Value} {x y : Int32} {m : jmM} {Q : Option Value → jmM → Prop} : AW d 2 128 [l0, l1, l2, l3, l4, l5, l6, l7] [.int y, .int x, v2, v3, v4, v5] m Q ↔ AW d 2 129 [l0, l1, l2, l3, l4, l5, l6, l7] [.int (x * y), v2, v3, v4, v5] m Q := A_imul hB_X0_offerPieces dX0_offerPieces_128
theorem dX0_offerPieces_129 : decode cX0_offerPieces 129 = .ok (.aload_n 0, 1) := by decide +kernel
theorem tX0_offerPieces_129 {d : Nat} {l1 l2 l3 l4 l5 l6 l7 : Option Value} {v0 v1 v2 v3 v4 : Value} {x : Nat} {m : jmM} {Q : Option Value → jmM → Prop} : AW d 2 129 [some (.ref x), l1, l2, l3, l4, l5, l6, l7] [v0, v1, v2, v3, v4] m Q ↔ AW d 2 130 [some (.ref x), l1, l2, l3, l4, l5, l6, l7] [.ref x, v0, v1, v2, v3, v4] m Q := A_aload_n hB_X0_offerPieces dX0_offerPieces_129 rfl
theorem dX0_offerPieces_130 : decode cX0_offerPieces 130 = .ok (.getfield 9, 3) := by decide +kernel
theorem tX0_offerPieces_130 {d : Nat} {l0 l1 l2 l3 l4 l5 l6 l7 : Option Value} {v1 v2 v3 v4 v5 : Value} {a : Nat} {m : jmM} {Q : Option Value → jmM → Prop} : AW d 2 130 [l0, l1, l2, l3, l4, l5, l6, l7] [.ref a, v1, v2, v3, v4, v5] m Q ↔ (mS m a).1 = 0 ∧ AW d 2 133 [l0, l1, l2, l3, l4, l5, l6, l7] [va_rf (mR m a 0), v1, v2, v3, v4, v5] m Q := A_getfield (f := fun m a => va_rf (mR m a 0)) hB_X0_offerPieces dX0_offerPieces_130 hO_X0_offerPieces fF_0_9 rfl
theorem dX0_offerPieces_133 : decode cX0_offerPieces 133 = .ok (.iload 6, 2) := by decide +kernel
theorem tX0_offerPieces_133 {d : Nat} {l0 l1 l2 l3 l4 l5 l7 : Option Value} {v0 v1 v2 v3 v4 v5 : Value} {x : Int32} {m : jmM} {Q : Option Value → jmM → Prop} : AW d 2 133 [l0, l1, l2, l3, l4, l5, some (.int x), l7] [v0, v1, v2, v3, v4, v5] m Q ↔ AW d 2 135 [l0, l1, l2, l3, l4, l5, some (.int x), l7] [.int x, v0, v1, v2, v3, v4, v5] m Q := A_iload hB_X0_offerPieces dX0_offerPieces_133 rfl
theorem dX0_offerPieces_135 : decode cX0_offerPieces 135 = .ok (.iaload, 1) := by decide +kernel
theorem tX0_offerPieces_135 {d : Nat} {l0 l1 l2 l3 l4 l5 l6 l7 : Option Value} {v2 v3 v4 v5 v6 : Value} {i : Int32} {a : Nat} {m : jmM} {Q : Option Value → jmM → Prop} : AW d 2 135 [l0, l1, l2, l3, l4, l5, l6, l7] [.int i, .ref a, v2, v3, v4, v5, v6] m Q ↔ (((mS m a).1 = 20 ∨ a = jScr) ∧ jIx i (mS m a).2) ∧ AW d 2 136 [l0, l1, l2, l3, l4, l5, l6, l7] [.int (mI m a (jx i)), v2, v3, v4, v5, v6] m Q := A_iaload hB_X0_offerPieces dX0_offerPieces_135
theorem dX0_offerPieces_136 : decode cX0_offerPieces 136 = .ok (.iadd, 1) := by decide +kernel
theorem tX0_offerPieces_136 {d : Nat} {l0 l1 l2 l3 l4 l5 l6 l7 : Option Value} {v2 v3 v4 v5 : Value} {x y : Int32} {m : jmM} {Q : Option Value → jmM → Prop} : AW d 2 136 [l0, l1, l2, l3, l4, l5, l6, l7] [.int y, .int x, v2, v3, v4, v5] m Q ↔ AW d 2 137 [l0, l1, l2, l3, l4, l5, l6, l7] [.int (x + y), v2, v3, v4, v5] m Q := A_iadd hB_X0_offerPieces dX0_offerPieces_136
theorem dX0_offerPieces_137 : decode cX0_offerPieces 137 = .ok (.invokevirtual 68, 3) := by decide +kernel
theorem tX0_offerPieces_137 {d : Nat} {l0 l1 l2 l3 l4 l5 l6 l7 : Option Value} {y0 y1 y2 y3 : Value} {a : Nat} {m : jmM} {Q : Option Value → jmM → Prop} : AW d 2 137 [l0, l1, l2, l3, l4, l5, l6, l7] [y0, y1, y2, y3, .ref a] m Q ↔ (mS m a).1 = 0 ∧ CC d 3 [.ref a, y3, y2, y1, y0] m (jK d 2 140 [l0, l1, l2, l3, l4, l5, l6, l7] [] Q) := A_callV hB_X0_offerPieces dX0_offerPieces_137 hO_X0_offerPieces fS_0_68 ⟨Nat.le_of_ble_eq_true rfl, Nat.le_of_ble_eq_true rfl⟩ rfl rfl rfl
theorem dX0_offerPieces_140 : decode cX0_offerPieces 140 = .ok (.iinc 6 1, 3) := by decide +kernel
theorem tX0_offerPieces_140 {d : Nat} {l0 l1 l2 l3 l4 l5 l7 : Option Value} {x : Int32} {m : jmM} {Q : Option Value → jmM → Prop} : AW d 2 140 [l0, l1, l2, l3, l4, l5, some (.int x), l7] [] m Q ↔ AW d 2 143 [l0, l1, l2, l3, l4, jc1 l5, some (.int (x + 1)), l7] [] m Q := A_iinc hB_X0_offerPieces dX0_offerPieces_140 rfl (Nat.le_of_ble_eq_true rfl) (v := 1) (by decide) rfl
theorem dX0_offerPieces_143 : decode cX0_offerPieces 143 = .ok (.goto (-113), 3) := by decide +kernel
theorem tX0_offerPieces_143 {d : Nat} {l0 l1 l2 l3 l4 l5 l6 l7 : Option Value} {m : jmM} {Q : Option Value → jmM → Prop} : AW d 2 143 [l0, l1, l2, l3, l4, l5, l6, l7] [] m Q ↔ AW d 2 30 [l0, l1, l2, l3, l4, l5, l6, l7] [] m Q := A_goto hB_X0_offerPieces dX0_offerPieces_143 (by decide)
theorem dX0_offerPieces_146 : decode cX0_offerPieces 146 = .ok (.return_, 1) := by decide +kernel
theorem tX0_offerPieces_146 {d : Nat} {l0 l1 l2 l3 l4 l5 l6 l7 : Option Value} {m : jmM} {Q : Option Value → jmM → Prop} : AW d 2 146 [l0, l1, l2, l3, l4, l5, l6, l7] [] m Q ↔ Q none m := A_return hB_X0_offerPieces dX0_offerPieces_146 hR_X0_offerPieces
theorem hB_X0_offer : jB 3 = cX0_offer := rfl
theorem hO_X0_offer : jO 3 = 0 := rfl
theorem hR_X0_offer : jRt 3 = none := rfl
theorem nX0_offer (d : Nat) (x0 : Nat) (x1 : Int32) (x2 : Int32) (x3 : Int32) (x4 : Int32) (m : jmM) (Q : Option Value → jmM → Prop) : CC (d + 1) 3 [.ref x0, .int x1, .int x2, .int x3, .int x4] m Q ↔ AW d 3 0 [some (.ref x0), some (.int x1), some (.int x2), some (.int x3), some (.int x4)] [] m Q := CC_body (Nat.le_of_ble_eq_true rfl)
theorem dX0_offer_0 : decode cX0_offer 0 = .ok (.iload 4, 2) := by decide +kernel
theorem tX0_offer_0 {d : Nat} {l0 l1 l2 l3 : Option Value} {x : Int32} {m : jmM} {Q : Option Value → jmM → Prop} : AW d 3 0 [l0, l1, l2, l3, some (.int x)] [] m Q ↔ AW d 3 2 [l0, l1, l2, l3, some (.int x)] [.int x] m Q := A_iload hB_X0_offer dX0_offer_0 rfl
theorem dX0_offer_2 : decode cX0_offer 2 = .ok (.aload_n 0, 1) := by decide +kernel
theorem tX0_offer_2 {d : Nat} {l1 l2 l3 l4 : Option Value} {v0 : Value} {x : Nat} {m : jmM} {Q : Option Value → jmM → Prop} : AW d 3 2 [some (.ref x), l1, l2, l3, l4] [v0] m Q ↔ AW d 3 3 [some (.ref x), l1, l2, l3, l4] [.ref x, v0] m Q := A_aload_n hB_X0_offer dX0_offer_2 rfl
theorem dX0_offer_3 : decode cX0_offer 3 = .ok (.getfield 9, 3) := by decide +kernel
theorem tX0_offer_3 {d : Nat} {l0 l1 l2 l3 l4 : Option Value} {v1 : Value} {a : Nat} {m : jmM} {Q : Option Value → jmM → Prop} : AW d 3 3 [l0, l1, l2, l3, l4] [.ref a, v1] m Q ↔ (mS m a).1 = 0 ∧ AW d 3 6 [l0, l1, l2, l3, l4] [va_rf (mR m a 0), v1] m Q := A_getfield (f := fun m a => va_rf (mR m a 0)) hB_X0_offer dX0_offer_3 hO_X0_offer fF_0_9 rfl
theorem dX0_offer_6 : decode cX0_offer 6 = .ok (.iload_n 1, 1) := by decide +kernel
theorem tX0_offer_6 {d : Nat} {l0 l2 l3 l4 : Option Value} {v0 v1 : Value} {x : Int32} {m : jmM} {Q : Option Value → jmM → Prop} : AW d 3 6 [l0, some (.int x), l2, l3, l4] [v0, v1] m Q ↔ AW d 3 7 [l0, some (.int x), l2, l3, l4] [.int x, v0, v1] m Q := A_iload_n hB_X0_offer dX0_offer_6 rfl
theorem dX0_offer_7 : decode cX0_offer 7 = .ok (.iaload, 1) := by decide +kernel
theorem tX0_offer_7 {d : Nat} {l0 l1 l2 l3 l4 : Option Value} {v2 : Value} {i : Int32} {a : Nat} {m : jmM} {Q : Option Value → jmM → Prop} : AW d 3 7 [l0, l1, l2, l3, l4] [.int i, .ref a, v2] m Q ↔ (((mS m a).1 = 20 ∨ a = jScr) ∧ jIx i (mS m a).2) ∧ AW d 3 8 [l0, l1, l2, l3, l4] [.int (mI m a (jx i)), v2] m Q := A_iaload hB_X0_offer dX0_offer_7
theorem dX0_offer_8 : decode cX0_offer 8 = .ok (.if_icmp .gt 24, 3) := by decide +kernel
theorem tX0_offer_8 {d : Nat} {l0 l1 l2 l3 l4 : Option Value} {x y : Int32} {m : jmM} {Q : Option Value → jmM → Prop} : AW d 3 8 [l0, l1, l2, l3, l4] [.int y, .int x] m Q ↔ if y < x then AW d 3 32 [l0, l1, l2, l3, l4] [] m Q else AW d 3 11 [l0, l1, l2, l3, l4] [] m Q := A_icmp_gt hB_X0_offer dX0_offer_8 (by decide)
theorem dX0_offer_11 : decode cX0_offer 11 = .ok (.iload 4, 2) := by decide +kernel
theorem tX0_offer_11 {d : Nat} {l0 l1 l2 l3 : Option Value} {x : Int32} {m : jmM} {Q : Option Value → jmM → Prop} : AW d 3 11 [l0, l1, l2, l3, some (.int x)] [] m Q ↔ AW d 3 13 [l0, l1, l2, l3, some (.int x)] [.int x] m Q := A_iload hB_X0_offer dX0_offer_11 rfl
theorem dX0_offer_13 : decode cX0_offer 13 = .ok (.aload_n 0, 1) := by decide +kernel
theorem tX0_offer_13 {d : Nat} {l1 l2 l3 l4 : Option Value} {v0 : Value} {x : Nat} {m : jmM} {Q : Option Value → jmM → Prop} : AW d 3 13 [some (.ref x), l1, l2, l3, l4] [v0] m Q ↔ AW d 3 14 [some (.ref x), l1, l2, l3, l4] [.ref x, v0] m Q := A_aload_n hB_X0_offer dX0_offer_13 rfl
theorem dX0_offer_14 : decode cX0_offer 14 = .ok (.getfield 9, 3) := by decide +kernel
theorem tX0_offer_14 {d : Nat} {l0 l1 l2 l3 l4 : Option Value} {v1 : Value} {a : Nat} {m : jmM} {Q : Option Value → jmM → Prop} : AW d 3 14 [l0, l1, l2, l3, l4] [.ref a, v1] m Q ↔ (mS m a).1 = 0 ∧ AW d 3 17 [l0, l1, l2, l3, l4] [va_rf (mR m a 0), v1] m Q := A_getfield (f := fun m a => va_rf (mR m a 0)) hB_X0_offer dX0_offer_14 hO_X0_offer fF_0_9 rfl
theorem dX0_offer_17 : decode cX0_offer 17 = .ok (.iload_n 1, 1) := by decide +kernel
theorem tX0_offer_17 {d : Nat} {l0 l2 l3 l4 : Option Value} {v0 v1 : Value} {x : Int32} {m : jmM} {Q : Option Value → jmM → Prop} : AW d 3 17 [l0, some (.int x), l2, l3, l4] [v0, v1] m Q ↔ AW d 3 18 [l0, some (.int x), l2, l3, l4] [.int x, v0, v1] m Q := A_iload_n hB_X0_offer dX0_offer_17 rfl
theorem dX0_offer_18 : decode cX0_offer 18 = .ok (.iaload, 1) := by decide +kernel
theorem tX0_offer_18 {d : Nat} {l0 l1 l2 l3 l4 : Option Value} {v2 : Value} {i : Int32} {a : Nat} {m : jmM} {Q : Option Value → jmM → Prop} : AW d 3 18 [l0, l1, l2, l3, l4] [.int i, .ref a, v2] m Q ↔ (((mS m a).1 = 20 ∨ a = jScr) ∧ jIx i (mS m a).2) ∧ AW d 3 19 [l0, l1, l2, l3, l4] [.int (mI m a (jx i)), v2] m Q := A_iaload hB_X0_offer dX0_offer_18
theorem dX0_offer_19 : decode cX0_offer 19 = .ok (.if_icmp .ne 35, 3) := by decide +kernel
theorem tX0_offer_19 {d : Nat} {l0 l1 l2 l3 l4 : Option Value} {x y : Int32} {m : jmM} {Q : Option Value → jmM → Prop} : AW d 3 19 [l0, l1, l2, l3, l4] [.int y, .int x] m Q ↔ if x = y then AW d 3 22 [l0, l1, l2, l3, l4] [] m Q else AW d 3 54 [l0, l1, l2, l3, l4] [] m Q := A_icmp_ne hB_X0_offer dX0_offer_19 (by decide)
theorem dX0_offer_22 : decode cX0_offer 22 = .ok (.iload_n 2, 1) := by decide +kernel
theorem tX0_offer_22 {d : Nat} {l0 l1 l3 l4 : Option Value} {x : Int32} {m : jmM} {Q : Option Value → jmM → Prop} : AW d 3 22 [l0, l1, some (.int x), l3, l4] [] m Q ↔ AW d 3 23 [l0, l1, some (.int x), l3, l4] [.int x] m Q := A_iload_n hB_X0_offer dX0_offer_22 rfl
theorem dX0_offer_23 : decode cX0_offer 23 = .ok (.aload_n 0, 1) := by decide +kernel
theorem tX0_offer_23 {d : Nat} {l1 l2 l3 l4 : Option Value} {v0 : Value} {x : Nat} {m : jmM} {Q : Option Value → jmM → Prop} : AW d 3 23 [some (.ref x), l1, l2, l3, l4] [v0] m Q ↔ AW d 3 24 [some (.ref x), l1, l2, l3, l4] [.ref x, v0] m Q := A_aload_n hB_X0_offer dX0_offer_23 rfl
theorem dX0_offer_24 : decode cX0_offer 24 = .ok (.getfield 15, 3) := by decide +kernel
theorem tX0_offer_24 {d : Nat} {l0 l1 l2 l3 l4 : Option Value} {v1 : Value} {a : Nat} {m : jmM} {Q : Option Value → jmM → Prop} : AW d 3 24 [l0, l1, l2, l3, l4] [.ref a, v1] m Q ↔ (mS m a).1 = 0 ∧ AW d 3 27 [l0, l1, l2, l3, l4] [va_rf (mR m a 1), v1] m Q := A_getfield (f := fun m a => va_rf (mR m a 1)) hB_X0_offer dX0_offer_24 hO_X0_offer fF_0_15 rfl
theorem dX0_offer_27 : decode cX0_offer 27 = .ok (.iload_n 1, 1) := by decide +kernel
theorem tX0_offer_27 {d : Nat} {l0 l2 l3 l4 : Option Value} {v0 v1 : Value} {x : Int32} {m : jmM} {Q : Option Value → jmM → Prop} : AW d 3 27 [l0, some (.int x), l2, l3, l4] [v0, v1] m Q ↔ AW d 3 28 [l0, some (.int x), l2, l3, l4] [.int x, v0, v1] m Q := A_iload_n hB_X0_offer dX0_offer_27 rfl
theorem dX0_offer_28 : decode cX0_offer 28 = .ok (.iaload, 1) := by decide +kernel
theorem tX0_offer_28 {d : Nat} {l0 l1 l2 l3 l4 : Option Value} {v2 : Value} {i : Int32} {a : Nat} {m : jmM} {Q : Option Value → jmM → Prop} : AW d 3 28 [l0, l1, l2, l3, l4] [.int i, .ref a, v2] m Q ↔ (((mS m a).1 = 20 ∨ a = jScr) ∧ jIx i (mS m a).2) ∧ AW d 3 29 [l0, l1, l2, l3, l4] [.int (mI m a (jx i)), v2] m Q := A_iaload hB_X0_offer dX0_offer_28
theorem dX0_offer_29 : decode cX0_offer 29 = .ok (.if_icmp .ge 25, 3) := by decide +kernel
theorem tX0_offer_29 {d : Nat} {l0 l1 l2 l3 l4 : Option Value} {x y : Int32} {m : jmM} {Q : Option Value → jmM → Prop} : AW d 3 29 [l0, l1, l2, l3, l4] [.int y, .int x] m Q ↔ if y ≤ x then AW d 3 54 [l0, l1, l2, l3, l4] [] m Q else AW d 3 32 [l0, l1, l2, l3, l4] [] m Q := A_icmp_ge hB_X0_offer dX0_offer_29 (by decide)
theorem dX0_offer_32 : decode cX0_offer 32 = .ok (.aload_n 0, 1) := by decide +kernel
theorem tX0_offer_32 {d : Nat} {l1 l2 l3 l4 : Option Value} {x : Nat} {m : jmM} {Q : Option Value → jmM → Prop} : AW d 3 32 [some (.ref x), l1, l2, l3, l4] [] m Q ↔ AW d 3 33 [some (.ref x), l1, l2, l3, l4] [.ref x] m Q := A_aload_n hB_X0_offer dX0_offer_32 rfl
theorem dX0_offer_33 : decode cX0_offer 33 = .ok (.getfield 9, 3) := by decide +kernel
theorem tX0_offer_33 {d : Nat} {l0 l1 l2 l3 l4 : Option Value} {a : Nat} {m : jmM} {Q : Option Value → jmM → Prop} : AW d 3 33 [l0, l1, l2, l3, l4] [.ref a] m Q ↔ (mS m a).1 = 0 ∧ AW d 3 36 [l0, l1, l2, l3, l4] [va_rf (mR m a 0)] m Q := A_getfield (f := fun m a => va_rf (mR m a 0)) hB_X0_offer dX0_offer_33 hO_X0_offer fF_0_9 rfl
theorem dX0_offer_36 : decode cX0_offer 36 = .ok (.iload_n 1, 1) := by decide +kernel
theorem tX0_offer_36 {d : Nat} {l0 l2 l3 l4 : Option Value} {v0 : Value} {x : Int32} {m : jmM} {Q : Option Value → jmM → Prop} : AW d 3 36 [l0, some (.int x), l2, l3, l4] [v0] m Q ↔ AW d 3 37 [l0, some (.int x), l2, l3, l4] [.int x, v0] m Q := A_iload_n hB_X0_offer dX0_offer_36 rfl
theorem dX0_offer_37 : decode cX0_offer 37 = .ok (.iload 4, 2) := by decide +kernel
theorem tX0_offer_37 {d : Nat} {l0 l1 l2 l3 : Option Value} {v0 v1 : Value} {x : Int32} {m : jmM} {Q : Option Value → jmM → Prop} : AW d 3 37 [l0, l1, l2, l3, some (.int x)] [v0, v1] m Q ↔ AW d 3 39 [l0, l1, l2, l3, some (.int x)] [.int x, v0, v1] m Q := A_iload hB_X0_offer dX0_offer_37 rfl
theorem dX0_offer_39 : decode cX0_offer 39 = .ok (.iastore, 1) := by decide +kernel
theorem tX0_offer_39 {d : Nat} {l0 l1 l2 l3 l4 : Option Value} {x i : Int32} {a : Nat} {m : jmM} {Q : Option Value → jmM → Prop} : AW d 3 39 [l0, l1, l2, l3, l4] [.int x, .int i, .ref a] m Q ↔ ((mS m a).1 = 20 ∧ jIx i (mS m a).2) ∧ AW d 3 40 [l0, l1, l2, l3, l4] [] (cI m a (jup (mI m a) (jx i) x)) Q := A_iastore hB_X0_offer dX0_offer_39
theorem dX0_offer_40 : decode cX0_offer 40 = .ok (.aload_n 0, 1) := by decide +kernel
theorem tX0_offer_40 {d : Nat} {l1 l2 l3 l4 : Option Value} {x : Nat} {m : jmM} {Q : Option Value → jmM → Prop} : AW d 3 40 [some (.ref x), l1, l2, l3, l4] [] m Q ↔ AW d 3 41 [some (.ref x), l1, l2, l3, l4] [.ref x] m Q := A_aload_n hB_X0_offer dX0_offer_40 rfl
theorem dX0_offer_41 : decode cX0_offer 41 = .ok (.getfield 15, 3) := by decide +kernel
theorem tX0_offer_41 {d : Nat} {l0 l1 l2 l3 l4 : Option Value} {a : Nat} {m : jmM} {Q : Option Value → jmM → Prop} : AW d 3 41 [l0, l1, l2, l3, l4] [.ref a] m Q ↔ (mS m a).1 = 0 ∧ AW d 3 44 [l0, l1, l2, l3, l4] [va_rf (mR m a 1)] m Q := A_getfield (f := fun m a => va_rf (mR m a 1)) hB_X0_offer dX0_offer_41 hO_X0_offer fF_0_15 rfl
theorem dX0_offer_44 : decode cX0_offer 44 = .ok (.iload_n 1, 1) := by decide +kernel
theorem tX0_offer_44 {d : Nat} {l0 l2 l3 l4 : Option Value} {v0 : Value} {x : Int32} {m : jmM} {Q : Option Value → jmM → Prop} : AW d 3 44 [l0, some (.int x), l2, l3, l4] [v0] m Q ↔ AW d 3 45 [l0, some (.int x), l2, l3, l4] [.int x, v0] m Q := A_iload_n hB_X0_offer dX0_offer_44 rfl
theorem dX0_offer_45 : decode cX0_offer 45 = .ok (.iload_n 2, 1) := by decide +kernel
theorem tX0_offer_45 {d : Nat} {l0 l1 l3 l4 : Option Value} {v0 v1 : Value} {x : Int32} {m : jmM} {Q : Option Value → jmM → Prop} : AW d 3 45 [l0, l1, some (.int x), l3, l4] [v0, v1] m Q ↔ AW d 3 46 [l0, l1, some (.int x), l3, l4] [.int x, v0, v1] m Q := A_iload_n hB_X0_offer dX0_offer_45 rfl
theorem dX0_offer_46 : decode cX0_offer 46 = .ok (.iastore, 1) := by decide +kernel
theorem tX0_offer_46 {d : Nat} {l0 l1 l2 l3 l4 : Option Value} {x i : Int32} {a : Nat} {m : jmM} {Q : Option Value → jmM → Prop} : AW d 3 46 [l0, l1, l2, l3, l4] [.int x, .int i, .ref a] m Q ↔ ((mS m a).1 = 20 ∧ jIx i (mS m a).2) ∧ AW d 3 47 [l0, l1, l2, l3, l4] [] (cI m a (jup (mI m a) (jx i) x)) Q := A_iastore hB_X0_offer dX0_offer_46
theorem dX0_offer_47 : decode cX0_offer 47 = .ok (.aload_n 0, 1) := by decide +kernel
theorem tX0_offer_47 {d : Nat} {l1 l2 l3 l4 : Option Value} {x : Nat} {m : jmM} {Q : Option Value → jmM → Prop} : AW d 3 47 [some (.ref x), l1, l2, l3, l4] [] m Q ↔ AW d 3 48 [some (.ref x), l1, l2, l3, l4] [.ref x] m Q := A_aload_n hB_X0_offer dX0_offer_47 rfl
theorem dX0_offer_48 : decode cX0_offer 48 = .ok (.getfield 18, 3) := by decide +kernel
theorem tX0_offer_48 {d : Nat} {l0 l1 l2 l3 l4 : Option Value} {a : Nat} {m : jmM} {Q : Option Value → jmM → Prop} : AW d 3 48 [l0, l1, l2, l3, l4] [.ref a] m Q ↔ (mS m a).1 = 0 ∧ AW d 3 51 [l0, l1, l2, l3, l4] [va_rf (mR m a 2)] m Q := A_getfield (f := fun m a => va_rf (mR m a 2)) hB_X0_offer dX0_offer_48 hO_X0_offer fF_0_18 rfl
theorem dX0_offer_51 : decode cX0_offer 51 = .ok (.iload_n 1, 1) := by decide +kernel
theorem tX0_offer_51 {d : Nat} {l0 l2 l3 l4 : Option Value} {v0 : Value} {x : Int32} {m : jmM} {Q : Option Value → jmM → Prop} : AW d 3 51 [l0, some (.int x), l2, l3, l4] [v0] m Q ↔ AW d 3 52 [l0, some (.int x), l2, l3, l4] [.int x, v0] m Q := A_iload_n hB_X0_offer dX0_offer_51 rfl
theorem dX0_offer_52 : decode cX0_offer 52 = .ok (.iload_n 3, 1) := by decide +kernel
theorem tX0_offer_52 {d : Nat} {l0 l1 l2 l4 : Option Value} {v0 v1 : Value} {x : Int32} {m : jmM} {Q : Option Value → jmM → Prop} : AW d 3 52 [l0, l1, l2, some (.int x), l4] [v0, v1] m Q ↔ AW d 3 53 [l0, l1, l2, some (.int x), l4] [.int x, v0, v1] m Q := A_iload_n hB_X0_offer dX0_offer_52 rfl
theorem dX0_offer_53 : decode cX0_offer 53 = .ok (.iastore, 1) := by decide +kernel
theorem tX0_offer_53 {d : Nat} {l0 l1 l2 l3 l4 : Option Value} {x i : Int32} {a : Nat} {m : jmM} {Q : Option Value → jmM → Prop} : AW d 3 53 [l0, l1, l2, l3, l4] [.int x, .int i, .ref a] m Q ↔ ((mS m a).1 = 20 ∧ jIx i (mS m a).2) ∧ AW d 3 54 [l0, l1, l2, l3, l4] [] (cI m a (jup (mI m a) (jx i) x)) Q := A_iastore hB_X0_offer dX0_offer_53
theorem dX0_offer_54 : decode cX0_offer 54 = .ok (.return_, 1) := by decide +kernel
theorem tX0_offer_54 {d : Nat} {l0 l1 l2 l3 l4 : Option Value} {m : jmM} {Q : Option Value → jmM → Prop} : AW d 3 54 [l0, l1, l2, l3, l4] [] m Q ↔ Q none m := A_return hB_X0_offer dX0_offer_54 hR_X0_offer
theorem hB_X0_coins : jB 4 = cX0_coins := rfl
theorem hO_X0_coins : jO 4 = 0 := rfl
theorem hR_X0_coins : jRt 4 = (some .int) := rfl
theorem nX0_coins (d : Nat) (x0 : Nat) (m : jmM) (Q : Option Value → jmM → Prop) : CC (d + 1) 4 [.ref x0] m Q ↔ AW d 4 0 [some (.ref x0)] [] m Q := CC_body (Nat.le_of_ble_eq_true rfl)
theorem dX0_coins_0 : decode cX0_coins 0 = .ok (.aload_n 0, 1) := by decide +kernel
theorem tX0_coins_0 {d : Nat} {x : Nat} {m : jmM} {Q : Option Value → jmM → Prop} : AW d 4 0 [some (.ref x)] [] m Q ↔ AW d 4 1 [some (.ref x)] [.ref x] m Q := A_aload_n hB_X0_coins dX0_coins_0 rfl
theorem dX0_coins_1 : decode cX0_coins 1 = .ok (.getfield 9, 3) := by decide +kernel
theorem tX0_coins_1 {d : Nat} {l0 : Option Value} {a : Nat} {m : jmM} {Q : Option Value → jmM → Prop} : AW d 4 1 [l0] [.ref a] m Q ↔ (mS m a).1 = 0 ∧ AW d 4 4 [l0] [va_rf (mR m a 0)] m Q := A_getfield (f := fun m a => va_rf (mR m a 0)) hB_X0_coins dX0_coins_1 hO_X0_coins fF_0_9 rfl
theorem dX0_coins_4 : decode cX0_coins 4 = .ok (.iconst 0, 1) := by decide +kernel
theorem tX0_coins_4 {d : Nat} {l0 : Option Value} {v0 : Value} {m : jmM} {Q : Option Value → jmM → Prop} : AW d 4 4 [l0] [v0] m Q ↔ AW d 4 5 [l0] [.int 0, v0] m Q := A_iconst hB_X0_coins dX0_coins_4 (by decide)
theorem dX0_coins_5 : decode cX0_coins 5 = .ok (.iaload, 1) := by decide +kernel
theorem tX0_coins_5 {d : Nat} {l0 : Option Value} {i : Int32} {a : Nat} {m : jmM} {Q : Option Value → jmM → Prop} : AW d 4 5 [l0] [.int i, .ref a] m Q ↔ (((mS m a).1 = 20 ∨ a = jScr) ∧ jIx i (mS m a).2) ∧ AW d 4 6 [l0] [.int (mI m a (jx i))] m Q := A_iaload hB_X0_coins dX0_coins_5
theorem dX0_coins_6 : decode cX0_coins 6 = .ok (.ireturn, 1) := by decide +kernel
theorem tX0_coins_6 {d : Nat} {l0 : Option Value} {x : Int32} {m : jmM} {Q : Option Value → jmM → Prop} : AW d 4 6 [l0] [.int x] m Q ↔ Q (some (.int x)) m := A_ireturn hB_X0_coins dX0_coins_6 hR_X0_coins
theorem hB_X0_pieces : jB 5 = cX0_pieces := rfl
theorem hO_X0_pieces : jO 5 = 0 := rfl
theorem hR_X0_pieces : jRt 5 = (some .int) := rfl
theorem nX0_pieces (d : Nat) (x0 : Nat) (m : jmM) (Q : Option Value → jmM → Prop) : CC (d + 1) 5 [.ref x0] m Q ↔ AW d 5 0 [some (.ref x0), none, none] [] m Q := CC_body (Nat.le_of_ble_eq_true rfl)
theorem dX0_pieces_0 : decode cX0_pieces 0 = .ok (.iconst 0, 1) := by decide +kernel
theorem tX0_pieces_0 {d : Nat} {l0 l1 l2 : Option Value} {m : jmM} {Q : Option Value → jmM → Prop} : AW d 5 0 [l0, l1, l2] [] m Q ↔ AW d 5 1 [l0, l1, l2] [.int 0] m Q := A_iconst hB_X0_pieces dX0_pieces_0 (by decide)
theorem dX0_pieces_1 : decode cX0_pieces 1 = .ok (.istore_n 1, 1) := by decide +kernel
theorem tX0_pieces_1 {d : Nat} {l0 l1 l2 : Option Value} {x : Int32} {m : jmM} {Q : Option Value → jmM → Prop} : AW d 5 1 [l0, l1, l2] [.int x] m Q ↔ AW d 5 2 [jc1 l0, some (.int x), l2] [] m Q := A_istore_n hB_X0_pieces dX0_pieces_1 (Nat.le_of_ble_eq_true rfl) rfl
theorem dX0_pieces_2 : decode cX0_pieces 2 = .ok (.iconst 0, 1) := by decide +kernel
theorem tX0_pieces_2 {d : Nat} {l0 l1 l2 : Option Value} {m : jmM} {Q : Option Value → jmM → Prop} : AW d 5 2 [l0, l1, l2] [] m Q ↔ AW d 5 3 [l0, l1, l2] [.int 0] m Q := A_iconst hB_X0_pieces dX0_pieces_2 (by decide)
theorem dX0_pieces_3 : decode cX0_pieces 3 = .ok (.istore_n 2, 1) := by decide +kernel
theorem tX0_pieces_3 {d : Nat} {l0 l1 l2 : Option Value} {x : Int32} {m : jmM} {Q : Option Value → jmM → Prop} : AW d 5 3 [l0, l1, l2] [.int x] m Q ↔ AW d 5 4 [l0, jc1 l1, some (.int x)] [] m Q := A_istore_n hB_X0_pieces dX0_pieces_3 (Nat.le_of_ble_eq_true rfl) rfl
theorem dX0_pieces_4 : decode cX0_pieces 4 = .ok (.iload_n 2, 1) := by decide +kernel
theorem tX0_pieces_4 {d : Nat} {l0 l1 : Option Value} {x : Int32} {m : jmM} {Q : Option Value → jmM → Prop} : AW d 5 4 [l0, l1, some (.int x)] [] m Q ↔ AW d 5 5 [l0, l1, some (.int x)] [.int x] m Q := A_iload_n hB_X0_pieces dX0_pieces_4 rfl
theorem dX0_pieces_5 : decode cX0_pieces 5 = .ok (.aload_n 0, 1) := by decide +kernel
theorem tX0_pieces_5 {d : Nat} {l1 l2 : Option Value} {v0 : Value} {x : Nat} {m : jmM} {Q : Option Value → jmM → Prop} : AW d 5 5 [some (.ref x), l1, l2] [v0] m Q ↔ AW d 5 6 [some (.ref x), l1, l2] [.ref x, v0] m Q := A_aload_n hB_X0_pieces dX0_pieces_5 rfl
theorem dX0_pieces_6 : decode cX0_pieces 6 = .ok (.getfield 27, 3) := by decide +kernel
theorem tX0_pieces_6 {d : Nat} {l0 l1 l2 : Option Value} {v1 : Value} {a : Nat} {m : jmM} {Q : Option Value → jmM → Prop} : AW d 5 6 [l0, l1, l2] [.ref a, v1] m Q ↔ (mS m a).1 = 0 ∧ AW d 5 9 [l0, l1, l2] [.int (mI m a 5), v1] m Q := A_getfield (f := fun m a => .int (mI m a 5)) hB_X0_pieces dX0_pieces_6 hO_X0_pieces fF_0_27 rfl
theorem dX0_pieces_9 : decode cX0_pieces 9 = .ok (.if_icmp .ge 36, 3) := by decide +kernel
theorem tX0_pieces_9 {d : Nat} {l0 l1 l2 : Option Value} {x y : Int32} {m : jmM} {Q : Option Value → jmM → Prop} : AW d 5 9 [l0, l1, l2] [.int y, .int x] m Q ↔ if y ≤ x then AW d 5 45 [l0, l1, l2] [] m Q else AW d 5 12 [l0, l1, l2] [] m Q := A_icmp_ge hB_X0_pieces dX0_pieces_9 (by decide)
theorem dX0_pieces_12 : decode cX0_pieces 12 = .ok (.iload_n 1, 1) := by decide +kernel
theorem tX0_pieces_12 {d : Nat} {l0 l2 : Option Value} {x : Int32} {m : jmM} {Q : Option Value → jmM → Prop} : AW d 5 12 [l0, some (.int x), l2] [] m Q ↔ AW d 5 13 [l0, some (.int x), l2] [.int x] m Q := A_iload_n hB_X0_pieces dX0_pieces_12 rfl
theorem dX0_pieces_13 : decode cX0_pieces 13 = .ok (.aload_n 0, 1) := by decide +kernel
theorem tX0_pieces_13 {d : Nat} {l1 l2 : Option Value} {v0 : Value} {x : Nat} {m : jmM} {Q : Option Value → jmM → Prop} : AW d 5 13 [some (.ref x), l1, l2] [v0] m Q ↔ AW d 5 14 [some (.ref x), l1, l2] [.ref x, v0] m Q := A_aload_n hB_X0_pieces dX0_pieces_13 rfl
theorem dX0_pieces_14 : decode cX0_pieces 14 = .ok (.getfield 15, 3) := by decide +kernel
theorem tX0_pieces_14 {d : Nat} {l0 l1 l2 : Option Value} {v1 : Value} {a : Nat} {m : jmM} {Q : Option Value → jmM → Prop} : AW d 5 14 [l0, l1, l2] [.ref a, v1] m Q ↔ (mS m a).1 = 0 ∧ AW d 5 17 [l0, l1, l2] [va_rf (mR m a 1), v1] m Q := A_getfield (f := fun m a => va_rf (mR m a 1)) hB_X0_pieces dX0_pieces_14 hO_X0_pieces fF_0_15 rfl
theorem dX0_pieces_17 : decode cX0_pieces 17 = .ok (.iload_n 2, 1) := by decide +kernel
theorem tX0_pieces_17 {d : Nat} {l0 l1 : Option Value} {v0 v1 : Value} {x : Int32} {m : jmM} {Q : Option Value → jmM → Prop} : AW d 5 17 [l0, l1, some (.int x)] [v0, v1] m Q ↔ AW d 5 18 [l0, l1, some (.int x)] [.int x, v0, v1] m Q := A_iload_n hB_X0_pieces dX0_pieces_17 rfl
theorem dX0_pieces_18 : decode cX0_pieces 18 = .ok (.iaload, 1) := by decide +kernel
theorem tX0_pieces_18 {d : Nat} {l0 l1 l2 : Option Value} {v2 : Value} {i : Int32} {a : Nat} {m : jmM} {Q : Option Value → jmM → Prop} : AW d 5 18 [l0, l1, l2] [.int i, .ref a, v2] m Q ↔ (((mS m a).1 = 20 ∨ a = jScr) ∧ jIx i (mS m a).2) ∧ AW d 5 19 [l0, l1, l2] [.int (mI m a (jx i)), v2] m Q := A_iaload hB_X0_pieces dX0_pieces_18
theorem dX0_pieces_19 : decode cX0_pieces 19 = .ok (.ifCond .le 7, 3) := by decide +kernel
theorem tX0_pieces_19 {d : Nat} {l0 l1 l2 : Option Value} {v1 : Value} {x : Int32} {m : jmM} {Q : Option Value → jmM → Prop} : AW d 5 19 [l0, l1, l2] [.int x, v1] m Q ↔ if x ≤ 0 then AW d 5 26 [l0, l1, l2] [v1] m Q else AW d 5 22 [l0, l1, l2] [v1] m Q := A_if_le hB_X0_pieces dX0_pieces_19 (by decide)
theorem dX0_pieces_22 : decode cX0_pieces 22 = .ok (.iconst 1, 1) := by decide +kernel
theorem tX0_pieces_22 {d : Nat} {l0 l1 l2 : Option Value} {v0 : Value} {m : jmM} {Q : Option Value → jmM → Prop} : AW d 5 22 [l0, l1, l2] [v0] m Q ↔ AW d 5 23 [l0, l1, l2] [.int 1, v0] m Q := A_iconst hB_X0_pieces dX0_pieces_22 (by decide)
theorem dX0_pieces_23 : decode cX0_pieces 23 = .ok (.goto 4, 3) := by decide +kernel
theorem tX0_pieces_23 {d : Nat} {l0 l1 l2 : Option Value} {v0 v1 : Value} {m : jmM} {Q : Option Value → jmM → Prop} : AW d 5 23 [l0, l1, l2] [v0, v1] m Q ↔ AW d 5 27 [l0, l1, l2] [v0, v1] m Q := A_goto hB_X0_pieces dX0_pieces_23 (by decide)
theorem dX0_pieces_26 : decode cX0_pieces 26 = .ok (.iconst 0, 1) := by decide +kernel
theorem tX0_pieces_26 {d : Nat} {l0 l1 l2 : Option Value} {v0 : Value} {m : jmM} {Q : Option Value → jmM → Prop} : AW d 5 26 [l0, l1, l2] [v0] m Q ↔ AW d 5 27 [l0, l1, l2] [.int 0, v0] m Q := A_iconst hB_X0_pieces dX0_pieces_26 (by decide)
theorem dX0_pieces_27 : decode cX0_pieces 27 = .ok (.iadd, 1) := by decide +kernel
theorem tX0_pieces_27 {d : Nat} {l0 l1 l2 : Option Value} {x y : Int32} {m : jmM} {Q : Option Value → jmM → Prop} : AW d 5 27 [l0, l1, l2] [.int y, .int x] m Q ↔ AW d 5 28 [l0, l1, l2] [.int (x + y)] m Q := A_iadd hB_X0_pieces dX0_pieces_27
theorem dX0_pieces_28 : decode cX0_pieces 28 = .ok (.istore_n 1, 1) := by decide +kernel
theorem tX0_pieces_28 {d : Nat} {l0 l1 l2 : Option Value} {x : Int32} {m : jmM} {Q : Option Value → jmM → Prop} : AW d 5 28 [l0, l1, l2] [.int x] m Q ↔ AW d 5 29 [jc1 l0, some (.int x), l2] [] m Q := A_istore_n hB_X0_pieces dX0_pieces_28 (Nat.le_of_ble_eq_true rfl) rfl
theorem dX0_pieces_29 : decode cX0_pieces 29 = .ok (.iload_n 2, 1) := by decide +kernel
theorem tX0_pieces_29 {d : Nat} {l0 l1 : Option Value} {x : Int32} {m : jmM} {Q : Option Value → jmM → Prop} : AW d 5 29 [l0, l1, some (.int x)] [] m Q ↔ AW d 5 30 [l0, l1, some (.int x)] [.int x] m Q := A_iload_n hB_X0_pieces dX0_pieces_29 rfl
theorem dX0_pieces_30 : decode cX0_pieces 30 = .ok (.iconst 1, 1) := by decide +kernel
theorem tX0_pieces_30 {d : Nat} {l0 l1 l2 : Option Value} {v0 : Value} {m : jmM} {Q : Option Value → jmM → Prop} : AW d 5 30 [l0, l1, l2] [v0] m Q ↔ AW d 5 31 [l0, l1, l2] [.int 1, v0] m Q := A_iconst hB_X0_pieces dX0_pieces_30 (by decide)
theorem dX0_pieces_31 : decode cX0_pieces 31 = .ok (.aload_n 0, 1) := by decide +kernel
theorem tX0_pieces_31 {d : Nat} {l1 l2 : Option Value} {v0 v1 : Value} {x : Nat} {m : jmM} {Q : Option Value → jmM → Prop} : AW d 5 31 [some (.ref x), l1, l2] [v0, v1] m Q ↔ AW d 5 32 [some (.ref x), l1, l2] [.ref x, v0, v1] m Q := A_aload_n hB_X0_pieces dX0_pieces_31 rfl
theorem dX0_pieces_32 : decode cX0_pieces 32 = .ok (.getfield 15, 3) := by decide +kernel
theorem tX0_pieces_32 {d : Nat} {l0 l1 l2 : Option Value} {v1 v2 : Value} {a : Nat} {m : jmM} {Q : Option Value → jmM → Prop} : AW d 5 32 [l0, l1, l2] [.ref a, v1, v2] m Q ↔ (mS m a).1 = 0 ∧ AW d 5 35 [l0, l1, l2] [va_rf (mR m a 1), v1, v2] m Q := A_getfield (f := fun m a => va_rf (mR m a 1)) hB_X0_pieces dX0_pieces_32 hO_X0_pieces fF_0_15 rfl
theorem dX0_pieces_35 : decode cX0_pieces 35 = .ok (.iload_n 2, 1) := by decide +kernel
theorem tX0_pieces_35 {d : Nat} {l0 l1 : Option Value} {v0 v1 v2 : Value} {x : Int32} {m : jmM} {Q : Option Value → jmM → Prop} : AW d 5 35 [l0, l1, some (.int x)] [v0, v1, v2] m Q ↔ AW d 5 36 [l0, l1, some (.int x)] [.int x, v0, v1, v2] m Q := A_iload_n hB_X0_pieces dX0_pieces_35 rfl
theorem dX0_pieces_36 : decode cX0_pieces 36 = .ok (.iaload, 1) := by decide +kernel
theorem tX0_pieces_36 {d : Nat} {l0 l1 l2 : Option Value} {v2 v3 : Value} {i : Int32} {a : Nat} {m : jmM} {Q : Option Value → jmM → Prop} : AW d 5 36 [l0, l1, l2] [.int i, .ref a, v2, v3] m Q ↔ (((mS m a).1 = 20 ∨ a = jScr) ∧ jIx i (mS m a).2) ∧ AW d 5 37 [l0, l1, l2] [.int (mI m a (jx i)), v2, v3] m Q := A_iaload hB_X0_pieces dX0_pieces_36
theorem dX0_pieces_37 : decode cX0_pieces 37 = .ok (.invokestatic 72, 3) := by decide +kernel
theorem tX0_pieces_37 {d : Nat} {l0 l1 l2 : Option Value} {v2 : Value} {x y : Int32} {m : jmM} {Q : Option Value → jmM → Prop} : AW d 5 37 [l0, l1, l2] [.int y, .int x, v2] m Q ↔ AW d 5 40 [l0, l1, l2] [.int (if x < y then y else x), v2] m Q := A_max hB_X0_pieces dX0_pieces_37 hO_X0_pieces fS_0_72 (Nat.le_of_ble_eq_true rfl)
theorem dX0_pieces_40 : decode cX0_pieces 40 = .ok (.iadd, 1) := by decide +kernel
theorem tX0_pieces_40 {d : Nat} {l0 l1 l2 : Option Value} {x y : Int32} {m : jmM} {Q : Option Value → jmM → Prop} : AW d 5 40 [l0, l1, l2] [.int y, .int x] m Q ↔ AW d 5 41 [l0, l1, l2] [.int (x + y)] m Q := A_iadd hB_X0_pieces dX0_pieces_40
theorem dX0_pieces_41 : decode cX0_pieces 41 = .ok (.istore_n 2, 1) := by decide +kernel
theorem tX0_pieces_41 {d : Nat} {l0 l1 l2 : Option Value} {x : Int32} {m : jmM} {Q : Option Value → jmM → Prop} : AW d 5 41 [l0, l1, l2] [.int x] m Q ↔ AW d 5 42 [l0, jc1 l1, some (.int x)] [] m Q := A_istore_n hB_X0_pieces dX0_pieces_41 (Nat.le_of_ble_eq_true rfl) rfl
theorem dX0_pieces_42 : decode cX0_pieces 42 = .ok (.goto (-38), 3) := by decide +kernel
theorem tX0_pieces_42 {d : Nat} {l0 l1 l2 : Option Value} {m : jmM} {Q : Option Value → jmM → Prop} : AW d 5 42 [l0, l1, l2] [] m Q ↔ AW d 5 4 [l0, l1, l2] [] m Q := A_goto hB_X0_pieces dX0_pieces_42 (by decide)
theorem dX0_pieces_45 : decode cX0_pieces 45 = .ok (.iload_n 1, 1) := by decide +kernel
theorem tX0_pieces_45 {d : Nat} {l0 l2 : Option Value} {x : Int32} {m : jmM} {Q : Option Value → jmM → Prop} : AW d 5 45 [l0, some (.int x), l2] [] m Q ↔ AW d 5 46 [l0, some (.int x), l2] [.int x] m Q := A_iload_n hB_X0_pieces dX0_pieces_45 rfl
theorem dX0_pieces_46 : decode cX0_pieces 46 = .ok (.ireturn, 1) := by decide +kernel
theorem tX0_pieces_46 {d : Nat} {l0 l1 l2 : Option Value} {x : Int32} {m : jmM} {Q : Option Value → jmM → Prop} : AW d 5 46 [l0, l1, l2] [.int x] m Q ↔ Q (some (.int x)) m := A_ireturn hB_X0_pieces dX0_pieces_46 hR_X0_pieces
theorem hB_X0_firstRowOfPiece : jB 6 = cX0_firstRowOfPiece := rfl
theorem hO_X0_firstRowOfPiece : jO 6 = 0 := rfl
theorem hR_X0_firstRowOfPiece : jRt 6 = (some .int) := rfl
theorem nX0_firstRowOfPiece (d : Nat) (x0 : Nat) (x1 : Int32) (m : jmM) (Q : Option Value → jmM → Prop) : CC (d + 1) 6 [.ref x0, .int x1] m Q ↔ AW d 6 0 [some (.ref x0), some (.int x1), none, none] [] m Q := CC_body (Nat.le_of_ble_eq_true rfl)
theorem dX0_firstRowOfPiece_0 : decode cX0_firstRowOfPiece 0 = .ok (.iconst 0, 1) := by decide +kernel
theorem tX0_firstRowOfPiece_0 {d : Nat} {l0 l1 l2 l3 : Option Value} {m : jmM} {Q : Option Value → jmM → Prop} : AW d 6 0 [l0, l1, l2, l3] [] m Q ↔ AW d 6 1 [l0, l1, l2, l3] [.int 0] m Q := A_iconst hB_X0_firstRowOfPiece dX0_firstRowOfPiece_0 (by decide)
theorem dX0_firstRowOfPiece_1 : decode cX0_firstRowOfPiece 1 = .ok (.istore_n 2, 1) := by decide +kernel
theorem tX0_firstRowOfPiece_1 {d : Nat} {l0 l1 l2 l3 : Option Value} {x : Int32} {m : jmM} {Q : Option Value → jmM → Prop} : AW d 6 1 [l0, l1, l2, l3] [.int x] m Q ↔ AW d 6 2 [l0, jc1 l1, some (.int x), l3] [] m Q := A_istore_n hB_X0_firstRowOfPiece dX0_firstRowOfPiece_1 (Nat.le_of_ble_eq_true rfl) rfl
theorem dX0_firstRowOfPiece_2 : decode cX0_firstRowOfPiece 2 = .ok (.iconst 0, 1) := by decide +kernel
theorem tX0_firstRowOfPiece_2 {d : Nat} {l0 l1 l2 l3 : Option Value} {m : jmM} {Q : Option Value → jmM → Prop} : AW d 6 2 [l0, l1, l2, l3] [] m Q ↔ AW d 6 3 [l0, l1, l2, l3] [.int 0] m Q := A_iconst hB_X0_firstRowOfPiece dX0_firstRowOfPiece_2 (by decide)
theorem dX0_firstRowOfPiece_3 : decode cX0_firstRowOfPiece 3 = .ok (.istore_n 3, 1) := by decide +kernel
theorem tX0_firstRowOfPiece_3 {d : Nat} {l0 l1 l2 l3 : Option Value} {x : Int32} {m : jmM} {Q : Option Value → jmM → Prop} : AW d 6 3 [l0, l1, l2, l3] [.int x] m Q ↔ AW d 6 4 [l0, l1, jc1 l2, some (.int x)] [] m Q := A_istore_n hB_X0_firstRowOfPiece dX0_firstRowOfPiece_3 (Nat.le_of_ble_eq_true rfl) rfl
theorem dX0_firstRowOfPiece_4 : decode cX0_firstRowOfPiece 4 = .ok (.iload_n 3, 1) := by decide +kernel
theorem tX0_firstRowOfPiece_4 {d : Nat} {l0 l1 l2 : Option Value} {x : Int32} {m : jmM} {Q : Option Value → jmM → Prop} : AW d 6 4 [l0, l1, l2, some (.int x)] [] m Q ↔ AW d 6 5 [l0, l1, l2, some (.int x)] [.int x] m Q := A_iload_n hB_X0_firstRowOfPiece dX0_firstRowOfPiece_4 rfl
theorem dX0_firstRowOfPiece_5 : decode cX0_firstRowOfPiece 5 = .ok (.aload_n 0, 1) := by decide +kernel
theorem tX0_firstRowOfPiece_5 {d : Nat} {l1 l2 l3 : Option Value} {v0 : Value} {x : Nat} {m : jmM} {Q : Option Value → jmM → Prop} : AW d 6 5 [some (.ref x), l1, l2, l3] [v0] m Q ↔ AW d 6 6 [some (.ref x), l1, l2, l3] [.ref x, v0] m Q := A_aload_n hB_X0_firstRowOfPiece dX0_firstRowOfPiece_5 rfl
theorem dX0_firstRowOfPiece_6 : decode cX0_firstRowOfPiece 6 = .ok (.getfield 27, 3) := by decide +kernel
theorem tX0_firstRowOfPiece_6 {d : Nat} {l0 l1 l2 l3 : Option Value} {v1 : Value} {a : Nat} {m : jmM} {Q : Option Value → jmM → Prop} : AW d 6 6 [l0, l1, l2, l3] [.ref a, v1] m Q ↔ (mS m a).1 = 0 ∧ AW d 6 9 [l0, l1, l2, l3] [.int (mI m a 5), v1] m Q := A_getfield (f := fun m a => .int (mI m a 5)) hB_X0_firstRowOfPiece dX0_firstRowOfPiece_6 hO_X0_firstRowOfPiece fF_0_27 rfl
theorem dX0_firstRowOfPiece_9 : decode cX0_firstRowOfPiece 9 = .ok (.if_icmp .ge 52, 3) := by decide +kernel
theorem tX0_firstRowOfPiece_9 {d : Nat} {l0 l1 l2 l3 : Option Value} {x y : Int32} {m : jmM} {Q : Option Value → jmM → Prop} : AW d 6 9 [l0, l1, l2, l3] [.int y, .int x] m Q ↔ if y ≤ x then AW d 6 61 [l0, l1, l2, l3] [] m Q else AW d 6 12 [l0, l1, l2, l3] [] m Q := A_icmp_ge hB_X0_firstRowOfPiece dX0_firstRowOfPiece_9 (by decide)
theorem dX0_firstRowOfPiece_12 : decode cX0_firstRowOfPiece 12 = .ok (.aload_n 0, 1) := by decide +kernel
theorem tX0_firstRowOfPiece_12 {d : Nat} {l1 l2 l3 : Option Value} {x : Nat} {m : jmM} {Q : Option Value → jmM → Prop} : AW d 6 12 [some (.ref x), l1, l2, l3] [] m Q ↔ AW d 6 13 [some (.ref x), l1, l2, l3] [.ref x] m Q := A_aload_n hB_X0_firstRowOfPiece dX0_firstRowOfPiece_12 rfl
theorem dX0_firstRowOfPiece_13 : decode cX0_firstRowOfPiece 13 = .ok (.getfield 15, 3) := by decide +kernel
theorem tX0_firstRowOfPiece_13 {d : Nat} {l0 l1 l2 l3 : Option Value} {a : Nat} {m : jmM} {Q : Option Value → jmM → Prop} : AW d 6 13 [l0, l1, l2, l3] [.ref a] m Q ↔ (mS m a).1 = 0 ∧ AW d 6 16 [l0, l1, l2, l3] [va_rf (mR m a 1)] m Q := A_getfield (f := fun m a => va_rf (mR m a 1)) hB_X0_firstRowOfPiece dX0_firstRowOfPiece_13 hO_X0_firstRowOfPiece fF_0_15 rfl
theorem dX0_firstRowOfPiece_16 : decode cX0_firstRowOfPiece 16 = .ok (.iload_n 3, 1) := by decide +kernel
theorem tX0_firstRowOfPiece_16 {d : Nat} {l0 l1 l2 : Option Value} {v0 : Value} {x : Int32} {m : jmM} {Q : Option Value → jmM → Prop} : AW d 6 16 [l0, l1, l2, some (.int x)] [v0] m Q ↔ AW d 6 17 [l0, l1, l2, some (.int x)] [.int x, v0] m Q := A_iload_n hB_X0_firstRowOfPiece dX0_firstRowOfPiece_16 rfl
theorem dX0_firstRowOfPiece_17 : decode cX0_firstRowOfPiece 17 = .ok (.iaload, 1) := by decide +kernel
theorem tX0_firstRowOfPiece_17 {d : Nat} {l0 l1 l2 l3 : Option Value} {i : Int32} {a : Nat} {m : jmM} {Q : Option Value → jmM → Prop} : AW d 6 17 [l0, l1, l2, l3] [.int i, .ref a] m Q ↔ (((mS m a).1 = 20 ∨ a = jScr) ∧ jIx i (mS m a).2) ∧ AW d 6 18 [l0, l1, l2, l3] [.int (mI m a (jx i))] m Q := A_iaload hB_X0_firstRowOfPiece dX0_firstRowOfPiece_17
theorem dX0_firstRowOfPiece_18 : decode cX0_firstRowOfPiece 18 = .ok (.ifCond .le 10, 3) := by decide +kernel
theorem tX0_firstRowOfPiece_18 {d : Nat} {l0 l1 l2 l3 : Option Value} {x : Int32} {m : jmM} {Q : Option Value → jmM → Prop} : AW d 6 18 [l0, l1, l2, l3] [.int x] m Q ↔ if x ≤ 0 then AW d 6 28 [l0, l1, l2, l3] [] m Q else AW d 6 21 [l0, l1, l2, l3] [] m Q := A_if_le hB_X0_firstRowOfPiece dX0_firstRowOfPiece_18 (by decide)
theorem dX0_firstRowOfPiece_21 : decode cX0_firstRowOfPiece 21 = .ok (.iload_n 2, 1) := by decide +kernel
theorem tX0_firstRowOfPiece_21 {d : Nat} {l0 l1 l3 : Option Value} {x : Int32} {m : jmM} {Q : Option Value → jmM → Prop} : AW d 6 21 [l0, l1, some (.int x), l3] [] m Q ↔ AW d 6 22 [l0, l1, some (.int x), l3] [.int x] m Q := A_iload_n hB_X0_firstRowOfPiece dX0_firstRowOfPiece_21 rfl
theorem dX0_firstRowOfPiece_22 : decode cX0_firstRowOfPiece 22 = .ok (.iload_n 1, 1) := by decide +kernel
theorem tX0_firstRowOfPiece_22 {d : Nat} {l0 l2 l3 : Option Value} {v0 : Value} {x : Int32} {m : jmM} {Q : Option Value → jmM → Prop} : AW d 6 22 [l0, some (.int x), l2, l3] [v0] m Q ↔ AW d 6 23 [l0, some (.int x), l2, l3] [.int x, v0] m Q := A_iload_n hB_X0_firstRowOfPiece dX0_firstRowOfPiece_22 rfl
theorem dX0_firstRowOfPiece_23 : decode cX0_firstRowOfPiece 23 = .ok (.if_icmp .ne 5, 3) := by decide +kernel
theorem tX0_firstRowOfPiece_23 {d : Nat} {l0 l1 l2 l3 : Option Value} {x y : Int32} {m : jmM} {Q : Option Value → jmM → Prop} : AW d 6 23 [l0, l1, l2, l3] [.int y, .int x] m Q ↔ if x = y then AW d 6 26 [l0, l1, l2, l3] [] m Q else AW d 6 28 [l0, l1, l2, l3] [] m Q := A_icmp_ne hB_X0_firstRowOfPiece dX0_firstRowOfPiece_23 (by decide)
theorem dX0_firstRowOfPiece_26 : decode cX0_firstRowOfPiece 26 = .ok (.iload_n 3, 1) := by decide +kernel
theorem tX0_firstRowOfPiece_26 {d : Nat} {l0 l1 l2 : Option Value} {x : Int32} {m : jmM} {Q : Option Value → jmM → Prop} : AW d 6 26 [l0, l1, l2, some (.int x)] [] m Q ↔ AW d 6 27 [l0, l1, l2, some (.int x)] [.int x] m Q := A_iload_n hB_X0_firstRowOfPiece dX0_firstRowOfPiece_26 rfl
theorem dX0_firstRowOfPiece_27 : decode cX0_firstRowOfPiece 27 = .ok (.ireturn, 1) := by decide +kernel
theorem tX0_firstRowOfPiece_27 {d : Nat} {l0 l1 l2 l3 : Option Value} {x : Int32} {m : jmM} {Q : Option Value → jmM → Prop} : AW d 6 27 [l0, l1, l2, l3] [.int x] m Q ↔ Q (some (.int x)) m := A_ireturn hB_X0_firstRowOfPiece dX0_firstRowOfPiece_27 hR_X0_firstRowOfPiece
theorem dX0_firstRowOfPiece_28 : decode cX0_firstRowOfPiece 28 = .ok (.iload_n 2, 1) := by decide +kernel
theorem tX0_firstRowOfPiece_28 {d : Nat} {l0 l1 l3 : Option Value} {x : Int32} {m : jmM} {Q : Option Value → jmM → Prop} : AW d 6 28 [l0, l1, some (.int x), l3] [] m Q ↔ AW d 6 29 [l0, l1, some (.int x), l3] [.int x] m Q := A_iload_n hB_X0_firstRowOfPiece dX0_firstRowOfPiece_28 rfl
theorem dX0_firstRowOfPiece_29 : decode cX0_firstRowOfPiece 29 = .ok (.aload_n 0, 1) := by decide +kernel
theorem tX0_firstRowOfPiece_29 {d : Nat} {l1 l2 l3 : Option Value} {v0 : Value} {x : Nat} {m : jmM} {Q : Option Value → jmM → Prop} : AW d 6 29 [some (.ref x), l1, l2, l3] [v0] m Q ↔ AW d 6 30 [some (.ref x), l1, l2, l3] [.ref x, v0] m Q := A_aload_n hB_X0_firstRowOfPiece dX0_firstRowOfPiece_29 rfl
theorem dX0_firstRowOfPiece_30 : decode cX0_firstRowOfPiece 30 = .ok (.getfield 15, 3) := by decide +kernel
theorem tX0_firstRowOfPiece_30 {d : Nat} {l0 l1 l2 l3 : Option Value} {v1 : Value} {a : Nat} {m : jmM} {Q : Option Value → jmM → Prop} : AW d 6 30 [l0, l1, l2, l3] [.ref a, v1] m Q ↔ (mS m a).1 = 0 ∧ AW d 6 33 [l0, l1, l2, l3] [va_rf (mR m a 1), v1] m Q := A_getfield (f := fun m a => va_rf (mR m a 1)) hB_X0_firstRowOfPiece dX0_firstRowOfPiece_30 hO_X0_firstRowOfPiece fF_0_15 rfl
theorem dX0_firstRowOfPiece_33 : decode cX0_firstRowOfPiece 33 = .ok (.iload_n 3, 1) := by decide +kernel
theorem tX0_firstRowOfPiece_33 {d : Nat} {l0 l1 l2 : Option Value} {v0 v1 : Value} {x : Int32} {m : jmM} {Q : Option Value → jmM → Prop} : AW d 6 33 [l0, l1, l2, some (.int x)] [v0, v1] m Q ↔ AW d 6 34 [l0, l1, l2, some (.int x)] [.int x, v0, v1] m Q := A_iload_n hB_X0_firstRowOfPiece dX0_firstRowOfPiece_33 rfl
theorem dX0_firstRowOfPiece_34 : decode cX0_firstRowOfPiece 34 = .ok (.iaload, 1) := by decide +kernel
theorem tX0_firstRowOfPiece_34 {d : Nat} {l0 l1 l2 l3 : Option Value} {v2 : Value} {i : Int32} {a : Nat} {m : jmM} {Q : Option Value → jmM → Prop} : AW d 6 34 [l0, l1, l2, l3] [.int i, .ref a, v2] m Q ↔ (((mS m a).1 = 20 ∨ a = jScr) ∧ jIx i (mS m a).2) ∧ AW d 6 35 [l0, l1, l2, l3] [.int (mI m a (jx i)), v2] m Q := A_iaload hB_X0_firstRowOfPiece dX0_firstRowOfPiece_34
theorem dX0_firstRowOfPiece_35 : decode cX0_firstRowOfPiece 35 = .ok (.ifCond .le 7, 3) := by decide +kernel
theorem tX0_firstRowOfPiece_35 {d : Nat} {l0 l1 l2 l3 : Option Value} {v1 : Value} {x : Int32} {m : jmM} {Q : Option Value → jmM → Prop} : AW d 6 35 [l0, l1, l2, l3] [.int x, v1] m Q ↔ if x ≤ 0 then AW d 6 42 [l0, l1, l2, l3] [v1] m Q else AW d 6 38 [l0, l1, l2, l3] [v1] m Q := A_if_le hB_X0_firstRowOfPiece dX0_firstRowOfPiece_35 (by decide)
theorem dX0_firstRowOfPiece_38 : decode cX0_firstRowOfPiece 38 = .ok (.iconst 1, 1) := by decide +kernel
theorem tX0_firstRowOfPiece_38 {d : Nat} {l0 l1 l2 l3 : Option Value} {v0 : Value} {m : jmM} {Q : Option Value → jmM → Prop} : AW d 6 38 [l0, l1, l2, l3] [v0] m Q ↔ AW d 6 39 [l0, l1, l2, l3] [.int 1, v0] m Q := A_iconst hB_X0_firstRowOfPiece dX0_firstRowOfPiece_38 (by decide)
theorem dX0_firstRowOfPiece_39 : decode cX0_firstRowOfPiece 39 = .ok (.goto 4, 3) := by decide +kernel
theorem tX0_firstRowOfPiece_39 {d : Nat} {l0 l1 l2 l3 : Option Value} {v0 v1 : Value} {m : jmM} {Q : Option Value → jmM → Prop} : AW d 6 39 [l0, l1, l2, l3] [v0, v1] m Q ↔ AW d 6 43 [l0, l1, l2, l3] [v0, v1] m Q := A_goto hB_X0_firstRowOfPiece dX0_firstRowOfPiece_39 (by decide)
theorem dX0_firstRowOfPiece_42 : decode cX0_firstRowOfPiece 42 = .ok (.iconst 0, 1) := by decide +kernel
theorem tX0_firstRowOfPiece_42 {d : Nat} {l0 l1 l2 l3 : Option Value} {v0 : Value} {m : jmM} {Q : Option Value → jmM → Prop} : AW d 6 42 [l0, l1, l2, l3] [v0] m Q ↔ AW d 6 43 [l0, l1, l2, l3] [.int 0, v0] m Q := A_iconst hB_X0_firstRowOfPiece dX0_firstRowOfPiece_42 (by decide)
theorem dX0_firstRowOfPiece_43 : decode cX0_firstRowOfPiece 43 = .ok (.iadd, 1) := by decide +kernel
theorem tX0_firstRowOfPiece_43 {d : Nat} {l0 l1 l2 l3 : Option Value} {x y : Int32} {m : jmM} {Q : Option Value → jmM → Prop} : AW d 6 43 [l0, l1, l2, l3] [.int y, .int x] m Q ↔ AW d 6 44 [l0, l1, l2, l3] [.int (x + y)] m Q := A_iadd hB_X0_firstRowOfPiece dX0_firstRowOfPiece_43
theorem dX0_firstRowOfPiece_44 : decode cX0_firstRowOfPiece 44 = .ok (.istore_n 2, 1) := by decide +kernel
theorem tX0_firstRowOfPiece_44 {d : Nat} {l0 l1 l2 l3 : Option Value} {x : Int32} {m : jmM} {Q : Option Value → jmM → Prop} : AW d 6 44 [l0, l1, l2, l3] [.int x] m Q ↔ AW d 6 45 [l0, jc1 l1, some (.int x), l3] [] m Q := A_istore_n hB_X0_firstRowOfPiece dX0_firstRowOfPiece_44 (Nat.le_of_ble_eq_true rfl) rfl
theorem dX0_firstRowOfPiece_45 : decode cX0_firstRowOfPiece 45 = .ok (.iload_n 3, 1) := by decide +kernel
theorem tX0_firstRowOfPiece_45 {d : Nat} {l0 l1 l2 : Option Value} {x : Int32} {m : jmM} {Q : Option Value → jmM → Prop} : AW d 6 45 [l0, l1, l2, some (.int x)] [] m Q ↔ AW d 6 46 [l0, l1, l2, some (.int x)] [.int x] m Q := A_iload_n hB_X0_firstRowOfPiece dX0_firstRowOfPiece_45 rfl
theorem dX0_firstRowOfPiece_46 : decode cX0_firstRowOfPiece 46 = .ok (.iconst 1, 1) := by decide +kernel
theorem tX0_firstRowOfPiece_46 {d : Nat} {l0 l1 l2 l3 : Option Value} {v0 : Value} {m : jmM} {Q : Option Value → jmM → Prop} : AW d 6 46 [l0, l1, l2, l3] [v0] m Q ↔ AW d 6 47 [l0, l1, l2, l3] [.int 1, v0] m Q := A_iconst hB_X0_firstRowOfPiece dX0_firstRowOfPiece_46 (by decide)
theorem dX0_firstRowOfPiece_47 : decode cX0_firstRowOfPiece 47 = .ok (.aload_n 0, 1) := by decide +kernel
theorem tX0_firstRowOfPiece_47 {d : Nat} {l1 l2 l3 : Option Value} {v0 v1 : Value} {x : Nat} {m : jmM} {Q : Option Value → jmM → Prop} : AW d 6 47 [some (.ref x), l1, l2, l3] [v0, v1] m Q ↔ AW d 6 48 [some (.ref x), l1, l2, l3] [.ref x, v0, v1] m Q := A_aload_n hB_X0_firstRowOfPiece dX0_firstRowOfPiece_47 rfl
theorem dX0_firstRowOfPiece_48 : decode cX0_firstRowOfPiece 48 = .ok (.getfield 15, 3) := by decide +kernel
theorem tX0_firstRowOfPiece_48 {d : Nat} {l0 l1 l2 l3 : Option Value} {v1 v2 : Value} {a : Nat} {m : jmM} {Q : Option Value → jmM → Prop} : AW d 6 48 [l0, l1, l2, l3] [.ref a, v1, v2] m Q ↔ (mS m a).1 = 0 ∧ AW d 6 51 [l0, l1, l2, l3] [va_rf (mR m a 1), v1, v2] m Q := A_getfield (f := fun m a => va_rf (mR m a 1)) hB_X0_firstRowOfPiece dX0_firstRowOfPiece_48 hO_X0_firstRowOfPiece fF_0_15 rfl
theorem dX0_firstRowOfPiece_51 : decode cX0_firstRowOfPiece 51 = .ok (.iload_n 3, 1) := by decide +kernel
theorem tX0_firstRowOfPiece_51 {d : Nat} {l0 l1 l2 : Option Value} {v0 v1 v2 : Value} {x : Int32} {m : jmM} {Q : Option Value → jmM → Prop} : AW d 6 51 [l0, l1, l2, some (.int x)] [v0, v1, v2] m Q ↔ AW d 6 52 [l0, l1, l2, some (.int x)] [.int x, v0, v1, v2] m Q := A_iload_n hB_X0_firstRowOfPiece dX0_firstRowOfPiece_51 rfl
theorem dX0_firstRowOfPiece_52 : decode cX0_firstRowOfPiece 52 = .ok (.iaload, 1) := by decide +kernel
theorem tX0_firstRowOfPiece_52 {d : Nat} {l0 l1 l2 l3 : Option Value} {v2 v3 : Value} {i : Int32} {a : Nat} {m : jmM} {Q : Option Value → jmM → Prop} : AW d 6 52 [l0, l1, l2, l3] [.int i, .ref a, v2, v3] m Q ↔ (((mS m a).1 = 20 ∨ a = jScr) ∧ jIx i (mS m a).2) ∧ AW d 6 53 [l0, l1, l2, l3] [.int (mI m a (jx i)), v2, v3] m Q := A_iaload hB_X0_firstRowOfPiece dX0_firstRowOfPiece_52
theorem dX0_firstRowOfPiece_53 : decode cX0_firstRowOfPiece 53 = .ok (.invokestatic 72, 3) := by decide +kernel
theorem tX0_firstRowOfPiece_53 {d : Nat} {l0 l1 l2 l3 : Option Value} {v2 : Value} {x y : Int32} {m : jmM} {Q : Option Value → jmM → Prop} : AW d 6 53 [l0, l1, l2, l3] [.int y, .int x, v2] m Q ↔ AW d 6 56 [l0, l1, l2, l3] [.int (if x < y then y else x), v2] m Q := A_max hB_X0_firstRowOfPiece dX0_firstRowOfPiece_53 hO_X0_firstRowOfPiece fS_0_72 (Nat.le_of_ble_eq_true rfl)
theorem dX0_firstRowOfPiece_56 : decode cX0_firstRowOfPiece 56 = .ok (.iadd, 1) := by decide +kernel
theorem tX0_firstRowOfPiece_56 {d : Nat} {l0 l1 l2 l3 : Option Value} {x y : Int32} {m : jmM} {Q : Option Value → jmM → Prop} : AW d 6 56 [l0, l1, l2, l3] [.int y, .int x] m Q ↔ AW d 6 57 [l0, l1, l2, l3] [.int (x + y)] m Q := A_iadd hB_X0_firstRowOfPiece dX0_firstRowOfPiece_56
theorem dX0_firstRowOfPiece_57 : decode cX0_firstRowOfPiece 57 = .ok (.istore_n 3, 1) := by decide +kernel
theorem tX0_firstRowOfPiece_57 {d : Nat} {l0 l1 l2 l3 : Option Value} {x : Int32} {m : jmM} {Q : Option Value → jmM → Prop} : AW d 6 57 [l0, l1, l2, l3] [.int x] m Q ↔ AW d 6 58 [l0, l1, jc1 l2, some (.int x)] [] m Q := A_istore_n hB_X0_firstRowOfPiece dX0_firstRowOfPiece_57 (Nat.le_of_ble_eq_true rfl) rfl
theorem dX0_firstRowOfPiece_58 : decode cX0_firstRowOfPiece 58 = .ok (.goto (-54), 3) := by decide +kernel
theorem tX0_firstRowOfPiece_58 {d : Nat} {l0 l1 l2 l3 : Option Value} {m : jmM} {Q : Option Value → jmM → Prop} : AW d 6 58 [l0, l1, l2, l3] [] m Q ↔ AW d 6 4 [l0, l1, l2, l3] [] m Q := A_goto hB_X0_firstRowOfPiece dX0_firstRowOfPiece_58 (by decide)
theorem dX0_firstRowOfPiece_61 : decode cX0_firstRowOfPiece 61 = .ok (.iconst (-1), 1) := by decide +kernel
theorem tX0_firstRowOfPiece_61 {d : Nat} {l0 l1 l2 l3 : Option Value} {m : jmM} {Q : Option Value → jmM → Prop} : AW d 6 61 [l0, l1, l2, l3] [] m Q ↔ AW d 6 62 [l0, l1, l2, l3] [.int (-1)] m Q := A_iconst hB_X0_firstRowOfPiece dX0_firstRowOfPiece_61 (by decide)
theorem dX0_firstRowOfPiece_62 : decode cX0_firstRowOfPiece 62 = .ok (.ireturn, 1) := by decide +kernel
theorem tX0_firstRowOfPiece_62 {d : Nat} {l0 l1 l2 l3 : Option Value} {x : Int32} {m : jmM} {Q : Option Value → jmM → Prop} : AW d 6 62 [l0, l1, l2, l3] [.int x] m Q ↔ Q (some (.int x)) m := A_ireturn hB_X0_firstRowOfPiece dX0_firstRowOfPiece_62 hR_X0_firstRowOfPiece
theorem hB_X0_wantOfRow : jB 7 = cX0_wantOfRow := rfl
theorem hO_X0_wantOfRow : jO 7 = 0 := rfl
theorem hR_X0_wantOfRow : jRt 7 = (some .int) := rfl
theorem nX0_wantOfRow (d : Nat) (x0 : Nat) (x1 : Int32) (m : jmM) (Q : Option Value → jmM → Prop) : CC (d + 1) 7 [.ref x0, .int x1] m Q ↔ AW d 7 0 [some (.ref x0), some (.int x1), none] [] m Q := CC_body (Nat.le_of_ble_eq_true rfl)
theorem dX0_wantOfRow_0 : decode cX0_wantOfRow 0 = .ok (.iconst 0, 1) := by decide +kernel
theorem tX0_wantOfRow_0 {d : Nat} {l0 l1 l2 : Option Value} {m : jmM} {Q : Option Value → jmM → Prop} : AW d 7 0 [l0, l1, l2] [] m Q ↔ AW d 7 1 [l0, l1, l2] [.int 0] m Q := A_iconst hB_X0_wantOfRow dX0_wantOfRow_0 (by decide)
theorem dX0_wantOfRow_1 : decode cX0_wantOfRow 1 = .ok (.istore_n 2, 1) := by decide +kernel
theorem tX0_wantOfRow_1 {d : Nat} {l0 l1 l2 : Option Value} {x : Int32} {m : jmM} {Q : Option Value → jmM → Prop} : AW d 7 1 [l0, l1, l2] [.int x] m Q ↔ AW d 7 2 [l0, jc1 l1, some (.int x)] [] m Q := A_istore_n hB_X0_wantOfRow dX0_wantOfRow_1 (Nat.le_of_ble_eq_true rfl) rfl
theorem dX0_wantOfRow_2 : decode cX0_wantOfRow 2 = .ok (.iload_n 2, 1) := by decide +kernel
theorem tX0_wantOfRow_2 {d : Nat} {l0 l1 : Option Value} {x : Int32} {m : jmM} {Q : Option Value → jmM → Prop} : AW d 7 2 [l0, l1, some (.int x)] [] m Q ↔ AW d 7 3 [l0, l1, some (.int x)] [.int x] m Q := A_iload_n hB_X0_wantOfRow dX0_wantOfRow_2 rfl
theorem dX0_wantOfRow_3 : decode cX0_wantOfRow 3 = .ok (.aload_n 0, 1) := by decide +kernel
theorem tX0_wantOfRow_3 {d : Nat} {l1 l2 : Option Value} {v0 : Value} {x : Nat} {m : jmM} {Q : Option Value → jmM → Prop} : AW d 7 3 [some (.ref x), l1, l2] [v0] m Q ↔ AW d 7 4 [some (.ref x), l1, l2] [.ref x, v0] m Q := A_aload_n hB_X0_wantOfRow dX0_wantOfRow_3 rfl
theorem dX0_wantOfRow_4 : decode cX0_wantOfRow 4 = .ok (.getfield 27, 3) := by decide +kernel
theorem tX0_wantOfRow_4 {d : Nat} {l0 l1 l2 : Option Value} {v1 : Value} {a : Nat} {m : jmM} {Q : Option Value → jmM → Prop} : AW d 7 4 [l0, l1, l2] [.ref a, v1] m Q ↔ (mS m a).1 = 0 ∧ AW d 7 7 [l0, l1, l2] [.int (mI m a 5), v1] m Q := A_getfield (f := fun m a => .int (mI m a 5)) hB_X0_wantOfRow dX0_wantOfRow_4 hO_X0_wantOfRow fF_0_27 rfl
theorem dX0_wantOfRow_7 : decode cX0_wantOfRow 7 = .ok (.if_icmp .ge 60, 3) := by decide +kernel
theorem tX0_wantOfRow_7 {d : Nat} {l0 l1 l2 : Option Value} {x y : Int32} {m : jmM} {Q : Option Value → jmM → Prop} : AW d 7 7 [l0, l1, l2] [.int y, .int x] m Q ↔ if y ≤ x then AW d 7 67 [l0, l1, l2] [] m Q else AW d 7 10 [l0, l1, l2] [] m Q := A_icmp_ge hB_X0_wantOfRow dX0_wantOfRow_7 (by decide)
theorem dX0_wantOfRow_10 : decode cX0_wantOfRow 10 = .ok (.iload_n 1, 1) := by decide +kernel
theorem tX0_wantOfRow_10 {d : Nat} {l0 l2 : Option Value} {x : Int32} {m : jmM} {Q : Option Value → jmM → Prop} : AW d 7 10 [l0, some (.int x), l2] [] m Q ↔ AW d 7 11 [l0, some (.int x), l2] [.int x] m Q := A_iload_n hB_X0_wantOfRow dX0_wantOfRow_10 rfl
theorem dX0_wantOfRow_11 : decode cX0_wantOfRow 11 = .ok (.iload_n 2, 1) := by decide +kernel
theorem tX0_wantOfRow_11 {d : Nat} {l0 l1 : Option Value} {v0 : Value} {x : Int32} {m : jmM} {Q : Option Value → jmM → Prop} : AW d 7 11 [l0, l1, some (.int x)] [v0] m Q ↔ AW d 7 12 [l0, l1, some (.int x)] [.int x, v0] m Q := A_iload_n hB_X0_wantOfRow dX0_wantOfRow_11 rfl
theorem dX0_wantOfRow_12 : decode cX0_wantOfRow 12 = .ok (.if_icmp .lt 39, 3) := by decide +kernel
theorem tX0_wantOfRow_12 {d : Nat} {l0 l1 l2 : Option Value} {x y : Int32} {m : jmM} {Q : Option Value → jmM → Prop} : AW d 7 12 [l0, l1, l2] [.int y, .int x] m Q ↔ if x < y then AW d 7 51 [l0, l1, l2] [] m Q else AW d 7 15 [l0, l1, l2] [] m Q := A_icmp_lt hB_X0_wantOfRow dX0_wantOfRow_12 (by decide)
theorem dX0_wantOfRow_15 : decode cX0_wantOfRow 15 = .ok (.iload_n 1, 1) := by decide +kernel
theorem tX0_wantOfRow_15 {d : Nat} {l0 l2 : Option Value} {x : Int32} {m : jmM} {Q : Option Value → jmM → Prop} : AW d 7 15 [l0, some (.int x), l2] [] m Q ↔ AW d 7 16 [l0, some (.int x), l2] [.int x] m Q := A_iload_n hB_X0_wantOfRow dX0_wantOfRow_15 rfl
theorem dX0_wantOfRow_16 : decode cX0_wantOfRow 16 = .ok (.iload_n 2, 1) := by decide +kernel
theorem tX0_wantOfRow_16 {d : Nat} {l0 l1 : Option Value} {v0 : Value} {x : Int32} {m : jmM} {Q : Option Value → jmM → Prop} : AW d 7 16 [l0, l1, some (.int x)] [v0] m Q ↔ AW d 7 17 [l0, l1, some (.int x)] [.int x, v0] m Q := A_iload_n hB_X0_wantOfRow dX0_wantOfRow_16 rfl
theorem dX0_wantOfRow_17 : decode cX0_wantOfRow 17 = .ok (.iconst 1, 1) := by decide +kernel
theorem tX0_wantOfRow_17 {d : Nat} {l0 l1 l2 : Option Value} {v0 v1 : Value} {m : jmM} {Q : Option Value → jmM → Prop} : AW d 7 17 [l0, l1, l2] [v0, v1] m Q ↔ AW d 7 18 [l0, l1, l2] [.int 1, v0, v1] m Q := A_iconst hB_X0_wantOfRow dX0_wantOfRow_17 (by decide)
theorem dX0_wantOfRow_18 : decode cX0_wantOfRow 18 = .ok (.aload_n 0, 1) := by decide +kernel
theorem tX0_wantOfRow_18 {d : Nat} {l1 l2 : Option Value} {v0 v1 v2 : Value} {x : Nat} {m : jmM} {Q : Option Value → jmM → Prop} : AW d 7 18 [some (.ref x), l1, l2] [v0, v1, v2] m Q ↔ AW d 7 19 [some (.ref x), l1, l2] [.ref x, v0, v1, v2] m Q := A_aload_n hB_X0_wantOfRow dX0_wantOfRow_18 rfl
theorem dX0_wantOfRow_19 : decode cX0_wantOfRow 19 = .ok (.getfield 15, 3) := by decide +kernel
theorem tX0_wantOfRow_19 {d : Nat} {l0 l1 l2 : Option Value} {v1 v2 v3 : Value} {a : Nat} {m : jmM} {Q : Option Value → jmM → Prop} : AW d 7 19 [l0, l1, l2] [.ref a, v1, v2, v3] m Q ↔ (mS m a).1 = 0 ∧ AW d 7 22 [l0, l1, l2] [va_rf (mR m a 1), v1, v2, v3] m Q := A_getfield (f := fun m a => va_rf (mR m a 1)) hB_X0_wantOfRow dX0_wantOfRow_19 hO_X0_wantOfRow fF_0_15 rfl
theorem dX0_wantOfRow_22 : decode cX0_wantOfRow 22 = .ok (.iload_n 2, 1) := by decide +kernel
theorem tX0_wantOfRow_22 {d : Nat} {l0 l1 : Option Value} {v0 v1 v2 v3 : Value} {x : Int32} {m : jmM} {Q : Option Value → jmM → Prop} : AW d 7 22 [l0, l1, some (.int x)] [v0, v1, v2, v3] m Q ↔ AW d 7 23 [l0, l1, some (.int x)] [.int x, v0, v1, v2, v3] m Q := A_iload_n hB_X0_wantOfRow dX0_wantOfRow_22 rfl
theorem dX0_wantOfRow_23 : decode cX0_wantOfRow 23 = .ok (.iaload, 1) := by decide +kernel
theorem tX0_wantOfRow_23 {d : Nat} {l0 l1 l2 : Option Value} {v2 v3 v4 : Value} {i : Int32} {a : Nat} {m : jmM} {Q : Option Value → jmM → Prop} : AW d 7 23 [l0, l1, l2] [.int i, .ref a, v2, v3, v4] m Q ↔ (((mS m a).1 = 20 ∨ a = jScr) ∧ jIx i (mS m a).2) ∧ AW d 7 24 [l0, l1, l2] [.int (mI m a (jx i)), v2, v3, v4] m Q := A_iaload hB_X0_wantOfRow dX0_wantOfRow_23
theorem dX0_wantOfRow_24 : decode cX0_wantOfRow 24 = .ok (.invokestatic 72, 3) := by decide +kernel
theorem tX0_wantOfRow_24 {d : Nat} {l0 l1 l2 : Option Value} {v2 v3 : Value} {x y : Int32} {m : jmM} {Q : Option Value → jmM → Prop} : AW d 7 24 [l0, l1, l2] [.int y, .int x, v2, v3] m Q ↔ AW d 7 27 [l0, l1, l2] [.int (if x < y then y else x), v2, v3] m Q := A_max hB_X0_wantOfRow dX0_wantOfRow_24 hO_X0_wantOfRow fS_0_72 (Nat.le_of_ble_eq_true rfl)
theorem dX0_wantOfRow_27 : decode cX0_wantOfRow 27 = .ok (.iadd, 1) := by decide +kernel
theorem tX0_wantOfRow_27 {d : Nat} {l0 l1 l2 : Option Value} {v2 : Value} {x y : Int32} {m : jmM} {Q : Option Value → jmM → Prop} : AW d 7 27 [l0, l1, l2] [.int y, .int x, v2] m Q ↔ AW d 7 28 [l0, l1, l2] [.int (x + y), v2] m Q := A_iadd hB_X0_wantOfRow dX0_wantOfRow_27
theorem dX0_wantOfRow_28 : decode cX0_wantOfRow 28 = .ok (.if_icmp .ge 23, 3) := by decide +kernel
theorem tX0_wantOfRow_28 {d : Nat} {l0 l1 l2 : Option Value} {x y : Int32} {m : jmM} {Q : Option Value → jmM → Prop} : AW d 7 28 [l0, l1, l2] [.int y, .int x] m Q ↔ if y ≤ x then AW d 7 51 [l0, l1, l2] [] m Q else AW d 7 31 [l0, l1, l2] [] m Q := A_icmp_ge hB_X0_wantOfRow dX0_wantOfRow_28 (by decide)
theorem dX0_wantOfRow_31 : decode cX0_wantOfRow 31 = .ok (.aload_n 0, 1) := by decide +kernel
theorem tX0_wantOfRow_31 {d : Nat} {l1 l2 : Option Value} {x : Nat} {m : jmM} {Q : Option Value → jmM → Prop} : AW d 7 31 [some (.ref x), l1, l2] [] m Q ↔ AW d 7 32 [some (.ref x), l1, l2] [.ref x] m Q := A_aload_n hB_X0_wantOfRow dX0_wantOfRow_31 rfl
theorem dX0_wantOfRow_32 : decode cX0_wantOfRow 32 = .ok (.getfield 15, 3) := by decide +kernel
theorem tX0_wantOfRow_32 {d : Nat} {l0 l1 l2 : Option Value} {a : Nat} {m : jmM} {Q : Option Value → jmM → Prop} : AW d 7 32 [l0, l1, l2] [.ref a] m Q ↔ (mS m a).1 = 0 ∧ AW d 7 35 [l0, l1, l2] [va_rf (mR m a 1)] m Q := A_getfield (f := fun m a => va_rf (mR m a 1)) hB_X0_wantOfRow dX0_wantOfRow_32 hO_X0_wantOfRow fF_0_15 rfl
theorem dX0_wantOfRow_35 : decode cX0_wantOfRow 35 = .ok (.iload_n 2, 1) := by decide +kernel
theorem tX0_wantOfRow_35 {d : Nat} {l0 l1 : Option Value} {v0 : Value} {x : Int32} {m : jmM} {Q : Option Value → jmM → Prop} : AW d 7 35 [l0, l1, some (.int x)] [v0] m Q ↔ AW d 7 36 [l0, l1, some (.int x)] [.int x, v0] m Q := A_iload_n hB_X0_wantOfRow dX0_wantOfRow_35 rfl
theorem dX0_wantOfRow_36 : decode cX0_wantOfRow 36 = .ok (.iaload, 1) := by decide +kernel
theorem tX0_wantOfRow_36 {d : Nat} {l0 l1 l2 : Option Value} {i : Int32} {a : Nat} {m : jmM} {Q : Option Value → jmM → Prop} : AW d 7 36 [l0, l1, l2] [.int i, .ref a] m Q ↔ (((mS m a).1 = 20 ∨ a = jScr) ∧ jIx i (mS m a).2) ∧ AW d 7 37 [l0, l1, l2] [.int (mI m a (jx i))] m Q := A_iaload hB_X0_wantOfRow dX0_wantOfRow_36
theorem dX0_wantOfRow_37 : decode cX0_wantOfRow 37 = .ok (.ifCond .le 12, 3) := by decide +kernel
theorem tX0_wantOfRow_37 {d : Nat} {l0 l1 l2 : Option Value} {x : Int32} {m : jmM} {Q : Option Value → jmM → Prop} : AW d 7 37 [l0, l1, l2] [.int x] m Q ↔ if x ≤ 0 then AW d 7 49 [l0, l1, l2] [] m Q else AW d 7 40 [l0, l1, l2] [] m Q := A_if_le hB_X0_wantOfRow dX0_wantOfRow_37 (by decide)
theorem dX0_wantOfRow_40 : decode cX0_wantOfRow 40 = .ok (.aload_n 0, 1) := by decide +kernel
theorem tX0_wantOfRow_40 {d : Nat} {l1 l2 : Option Value} {x : Nat} {m : jmM} {Q : Option Value → jmM → Prop} : AW d 7 40 [some (.ref x), l1, l2] [] m Q ↔ AW d 7 41 [some (.ref x), l1, l2] [.ref x] m Q := A_aload_n hB_X0_wantOfRow dX0_wantOfRow_40 rfl
theorem dX0_wantOfRow_41 : decode cX0_wantOfRow 41 = .ok (.getfield 18, 3) := by decide +kernel
theorem tX0_wantOfRow_41 {d : Nat} {l0 l1 l2 : Option Value} {a : Nat} {m : jmM} {Q : Option Value → jmM → Prop} : AW d 7 41 [l0, l1, l2] [.ref a] m Q ↔ (mS m a).1 = 0 ∧ AW d 7 44 [l0, l1, l2] [va_rf (mR m a 2)] m Q := A_getfield (f := fun m a => va_rf (mR m a 2)) hB_X0_wantOfRow dX0_wantOfRow_41 hO_X0_wantOfRow fF_0_18 rfl
theorem dX0_wantOfRow_44 : decode cX0_wantOfRow 44 = .ok (.iload_n 2, 1) := by decide +kernel
theorem tX0_wantOfRow_44 {d : Nat} {l0 l1 : Option Value} {v0 : Value} {x : Int32} {m : jmM} {Q : Option Value → jmM → Prop} : AW d 7 44 [l0, l1, some (.int x)] [v0] m Q ↔ AW d 7 45 [l0, l1, some (.int x)] [.int x, v0] m Q := A_iload_n hB_X0_wantOfRow dX0_wantOfRow_44 rfl
theorem dX0_wantOfRow_45 : decode cX0_wantOfRow 45 = .ok (.iaload, 1) := by decide +kernel
theorem tX0_wantOfRow_45 {d : Nat} {l0 l1 l2 : Option Value} {i : Int32} {a : Nat} {m : jmM} {Q : Option Value → jmM → Prop} : AW d 7 45 [l0, l1, l2] [.int i, .ref a] m Q ↔ (((mS m a).1 = 20 ∨ a = jScr) ∧ jIx i (mS m a).2) ∧ AW d 7 46 [l0, l1, l2] [.int (mI m a (jx i))] m Q := A_iaload hB_X0_wantOfRow dX0_wantOfRow_45
theorem dX0_wantOfRow_46 : decode cX0_wantOfRow 46 = .ok (.goto 4, 3) := by decide +kernel
theorem tX0_wantOfRow_46 {d : Nat} {l0 l1 l2 : Option Value} {v0 : Value} {m : jmM} {Q : Option Value → jmM → Prop} : AW d 7 46 [l0, l1, l2] [v0] m Q ↔ AW d 7 50 [l0, l1, l2] [v0] m Q := A_goto hB_X0_wantOfRow dX0_wantOfRow_46 (by decide)
theorem dX0_wantOfRow_49 : decode cX0_wantOfRow 49 = .ok (.iconst (-1), 1) := by decide +kernel
theorem tX0_wantOfRow_49 {d : Nat} {l0 l1 l2 : Option Value} {m : jmM} {Q : Option Value → jmM → Prop} : AW d 7 49 [l0, l1, l2] [] m Q ↔ AW d 7 50 [l0, l1, l2] [.int (-1)] m Q := A_iconst hB_X0_wantOfRow dX0_wantOfRow_49 (by decide)
theorem dX0_wantOfRow_50 : decode cX0_wantOfRow 50 = .ok (.ireturn, 1) := by decide +kernel
theorem tX0_wantOfRow_50 {d : Nat} {l0 l1 l2 : Option Value} {x : Int32} {m : jmM} {Q : Option Value → jmM → Prop} : AW d 7 50 [l0, l1, l2] [.int x] m Q ↔ Q (some (.int x)) m := A_ireturn hB_X0_wantOfRow dX0_wantOfRow_50 hR_X0_wantOfRow
theorem dX0_wantOfRow_51 : decode cX0_wantOfRow 51 = .ok (.iload_n 2, 1) := by decide +kernel
theorem tX0_wantOfRow_51 {d : Nat} {l0 l1 : Option Value} {x : Int32} {m : jmM} {Q : Option Value → jmM → Prop} : AW d 7 51 [l0, l1, some (.int x)] [] m Q ↔ AW d 7 52 [l0, l1, some (.int x)] [.int x] m Q := A_iload_n hB_X0_wantOfRow dX0_wantOfRow_51 rfl
theorem dX0_wantOfRow_52 : decode cX0_wantOfRow 52 = .ok (.iconst 1, 1) := by decide +kernel
theorem tX0_wantOfRow_52 {d : Nat} {l0 l1 l2 : Option Value} {v0 : Value} {m : jmM} {Q : Option Value → jmM → Prop} : AW d 7 52 [l0, l1, l2] [v0] m Q ↔ AW d 7 53 [l0, l1, l2] [.int 1, v0] m Q := A_iconst hB_X0_wantOfRow dX0_wantOfRow_52 (by decide)
theorem dX0_wantOfRow_53 : decode cX0_wantOfRow 53 = .ok (.aload_n 0, 1) := by decide +kernel
theorem tX0_wantOfRow_53 {d : Nat} {l1 l2 : Option Value} {v0 v1 : Value} {x : Nat} {m : jmM} {Q : Option Value → jmM → Prop} : AW d 7 53 [some (.ref x), l1, l2] [v0, v1] m Q ↔ AW d 7 54 [some (.ref x), l1, l2] [.ref x, v0, v1] m Q := A_aload_n hB_X0_wantOfRow dX0_wantOfRow_53 rfl
theorem dX0_wantOfRow_54 : decode cX0_wantOfRow 54 = .ok (.getfield 15, 3) := by decide +kernel
theorem tX0_wantOfRow_54 {d : Nat} {l0 l1 l2 : Option Value} {v1 v2 : Value} {a : Nat} {m : jmM} {Q : Option Value → jmM → Prop} : AW d 7 54 [l0, l1, l2] [.ref a, v1, v2] m Q ↔ (mS m a).1 = 0 ∧ AW d 7 57 [l0, l1, l2] [va_rf (mR m a 1), v1, v2] m Q := A_getfield (f := fun m a => va_rf (mR m a 1)) hB_X0_wantOfRow dX0_wantOfRow_54 hO_X0_wantOfRow fF_0_15 rfl
theorem dX0_wantOfRow_57 : decode cX0_wantOfRow 57 = .ok (.iload_n 2, 1) := by decide +kernel
theorem tX0_wantOfRow_57 {d : Nat} {l0 l1 : Option Value} {v0 v1 v2 : Value} {x : Int32} {m : jmM} {Q : Option Value → jmM → Prop} : AW d 7 57 [l0, l1, some (.int x)] [v0, v1, v2] m Q ↔ AW d 7 58 [l0, l1, some (.int x)] [.int x, v0, v1, v2] m Q := A_iload_n hB_X0_wantOfRow dX0_wantOfRow_57 rfl
theorem dX0_wantOfRow_58 : decode cX0_wantOfRow 58 = .ok (.iaload, 1) := by decide +kernel
theorem tX0_wantOfRow_58 {d : Nat} {l0 l1 l2 : Option Value} {v2 v3 : Value} {i : Int32} {a : Nat} {m : jmM} {Q : Option Value → jmM → Prop} : AW d 7 58 [l0, l1, l2] [.int i, .ref a, v2, v3] m Q ↔ (((mS m a).1 = 20 ∨ a = jScr) ∧ jIx i (mS m a).2) ∧ AW d 7 59 [l0, l1, l2] [.int (mI m a (jx i)), v2, v3] m Q := A_iaload hB_X0_wantOfRow dX0_wantOfRow_58
theorem dX0_wantOfRow_59 : decode cX0_wantOfRow 59 = .ok (.invokestatic 72, 3) := by decide +kernel
theorem tX0_wantOfRow_59 {d : Nat} {l0 l1 l2 : Option Value} {v2 : Value} {x y : Int32} {m : jmM} {Q : Option Value → jmM → Prop} : AW d 7 59 [l0, l1, l2] [.int y, .int x, v2] m Q ↔ AW d 7 62 [l0, l1, l2] [.int (if x < y then y else x), v2] m Q := A_max hB_X0_wantOfRow dX0_wantOfRow_59 hO_X0_wantOfRow fS_0_72 (Nat.le_of_ble_eq_true rfl)
theorem dX0_wantOfRow_62 : decode cX0_wantOfRow 62 = .ok (.iadd, 1) := by decide +kernel
theorem tX0_wantOfRow_62 {d : Nat} {l0 l1 l2 : Option Value} {x y : Int32} {m : jmM} {Q : Option Value → jmM → Prop} : AW d 7 62 [l0, l1, l2] [.int y, .int x] m Q ↔ AW d 7 63 [l0, l1, l2] [.int (x + y)] m Q := A_iadd hB_X0_wantOfRow dX0_wantOfRow_62
theorem dX0_wantOfRow_63 : decode cX0_wantOfRow 63 = .ok (.istore_n 2, 1) := by decide +kernel
theorem tX0_wantOfRow_63 {d : Nat} {l0 l1 l2 : Option Value} {x : Int32} {m : jmM} {Q : Option Value → jmM → Prop} : AW d 7 63 [l0, l1, l2] [.int x] m Q ↔ AW d 7 64 [l0, jc1 l1, some (.int x)] [] m Q := A_istore_n hB_X0_wantOfRow dX0_wantOfRow_63 (Nat.le_of_ble_eq_true rfl) rfl
theorem dX0_wantOfRow_64 : decode cX0_wantOfRow 64 = .ok (.goto (-62), 3) := by decide +kernel
theorem tX0_wantOfRow_64 {d : Nat} {l0 l1 l2 : Option Value} {m : jmM} {Q : Option Value → jmM → Prop} : AW d 7 64 [l0, l1, l2] [] m Q ↔ AW d 7 2 [l0, l1, l2] [] m Q := A_goto hB_X0_wantOfRow dX0_wantOfRow_64 (by decide)
theorem dX0_wantOfRow_67 : decode cX0_wantOfRow 67 = .ok (.iconst (-1), 1) := by decide +kernel
theorem tX0_wantOfRow_67 {d : Nat} {l0 l1 l2 : Option Value} {m : jmM} {Q : Option Value → jmM → Prop} : AW d 7 67 [l0, l1, l2] [] m Q ↔ AW d 7 68 [l0, l1, l2] [.int (-1)] m Q := A_iconst hB_X0_wantOfRow dX0_wantOfRow_67 (by decide)
theorem dX0_wantOfRow_68 : decode cX0_wantOfRow 68 = .ok (.ireturn, 1) := by decide +kernel
theorem tX0_wantOfRow_68 {d : Nat} {l0 l1 l2 : Option Value} {x : Int32} {m : jmM} {Q : Option Value → jmM → Prop} : AW d 7 68 [l0, l1, l2] [.int x] m Q ↔ Q (some (.int x)) m := A_ireturn hB_X0_wantOfRow dX0_wantOfRow_68 hR_X0_wantOfRow
theorem hB_X0_rowsOfPieceAt : jB 8 = cX0_rowsOfPieceAt := rfl
theorem hO_X0_rowsOfPieceAt : jO 8 = 0 := rfl
theorem hR_X0_rowsOfPieceAt : jRt 8 = (some .int) := rfl
theorem nX0_rowsOfPieceAt (d : Nat) (x0 : Nat) (x1 : Int32) (m : jmM) (Q : Option Value → jmM → Prop) : CC (d + 1) 8 [.ref x0, .int x1] m Q ↔ AW d 8 0 [some (.ref x0), some (.int x1)] [] m Q := CC_body (Nat.le_of_ble_eq_true rfl)
theorem dX0_rowsOfPieceAt_0 : decode cX0_rowsOfPieceAt 0 = .ok (.iload_n 1, 1) := by decide +kernel
theorem tX0_rowsOfPieceAt_0 {d : Nat} {l0 : Option Value} {x : Int32} {m : jmM} {Q : Option Value → jmM → Prop} : AW d 8 0 [l0, some (.int x)] [] m Q ↔ AW d 8 1 [l0, some (.int x)] [.int x] m Q := A_iload_n hB_X0_rowsOfPieceAt dX0_rowsOfPieceAt_0 rfl
theorem dX0_rowsOfPieceAt_1 : decode cX0_rowsOfPieceAt 1 = .ok (.ifCond .lt 20, 3) := by decide +kernel
theorem tX0_rowsOfPieceAt_1 {d : Nat} {l0 l1 : Option Value} {x : Int32} {m : jmM} {Q : Option Value → jmM → Prop} : AW d 8 1 [l0, l1] [.int x] m Q ↔ if x < 0 then AW d 8 21 [l0, l1] [] m Q else AW d 8 4 [l0, l1] [] m Q := A_if_lt hB_X0_rowsOfPieceAt dX0_rowsOfPieceAt_1 (by decide)
theorem dX0_rowsOfPieceAt_4 : decode cX0_rowsOfPieceAt 4 = .ok (.iload_n 1, 1) := by decide +kernel
theorem tX0_rowsOfPieceAt_4 {d : Nat} {l0 : Option Value} {x : Int32} {m : jmM} {Q : Option Value → jmM → Prop} : AW d 8 4 [l0, some (.int x)] [] m Q ↔ AW d 8 5 [l0, some (.int x)] [.int x] m Q := A_iload_n hB_X0_rowsOfPieceAt dX0_rowsOfPieceAt_4 rfl
theorem dX0_rowsOfPieceAt_5 : decode cX0_rowsOfPieceAt 5 = .ok (.aload_n 0, 1) := by decide +kernel
theorem tX0_rowsOfPieceAt_5 {d : Nat} {l1 : Option Value} {v0 : Value} {x : Nat} {m : jmM} {Q : Option Value → jmM → Prop} : AW d 8 5 [some (.ref x), l1] [v0] m Q ↔ AW d 8 6 [some (.ref x), l1] [.ref x, v0] m Q := A_aload_n hB_X0_rowsOfPieceAt dX0_rowsOfPieceAt_5 rfl
theorem dX0_rowsOfPieceAt_6 : decode cX0_rowsOfPieceAt 6 = .ok (.getfield 27, 3) := by decide +kernel
theorem tX0_rowsOfPieceAt_6 {d : Nat} {l0 l1 : Option Value} {v1 : Value} {a : Nat} {m : jmM} {Q : Option Value → jmM → Prop} : AW d 8 6 [l0, l1] [.ref a, v1] m Q ↔ (mS m a).1 = 0 ∧ AW d 8 9 [l0, l1] [.int (mI m a 5), v1] m Q := A_getfield (f := fun m a => .int (mI m a 5)) hB_X0_rowsOfPieceAt dX0_rowsOfPieceAt_6 hO_X0_rowsOfPieceAt fF_0_27 rfl
theorem dX0_rowsOfPieceAt_9 : decode cX0_rowsOfPieceAt 9 = .ok (.if_icmp .ge 12, 3) := by decide +kernel
theorem tX0_rowsOfPieceAt_9 {d : Nat} {l0 l1 : Option Value} {x y : Int32} {m : jmM} {Q : Option Value → jmM → Prop} : AW d 8 9 [l0, l1] [.int y, .int x] m Q ↔ if y ≤ x then AW d 8 21 [l0, l1] [] m Q else AW d 8 12 [l0, l1] [] m Q := A_icmp_ge hB_X0_rowsOfPieceAt dX0_rowsOfPieceAt_9 (by decide)
theorem dX0_rowsOfPieceAt_12 : decode cX0_rowsOfPieceAt 12 = .ok (.aload_n 0, 1) := by decide +kernel
theorem tX0_rowsOfPieceAt_12 {d : Nat} {l1 : Option Value} {x : Nat} {m : jmM} {Q : Option Value → jmM → Prop} : AW d 8 12 [some (.ref x), l1] [] m Q ↔ AW d 8 13 [some (.ref x), l1] [.ref x] m Q := A_aload_n hB_X0_rowsOfPieceAt dX0_rowsOfPieceAt_12 rfl
theorem dX0_rowsOfPieceAt_13 : decode cX0_rowsOfPieceAt 13 = .ok (.getfield 15, 3) := by decide +kernel
theorem tX0_rowsOfPieceAt_13 {d : Nat} {l0 l1 : Option Value} {a : Nat} {m : jmM} {Q : Option Value → jmM → Prop} : AW d 8 13 [l0, l1] [.ref a] m Q ↔ (mS m a).1 = 0 ∧ AW d 8 16 [l0, l1] [va_rf (mR m a 1)] m Q := A_getfield (f := fun m a => va_rf (mR m a 1)) hB_X0_rowsOfPieceAt dX0_rowsOfPieceAt_13 hO_X0_rowsOfPieceAt fF_0_15 rfl
theorem dX0_rowsOfPieceAt_16 : decode cX0_rowsOfPieceAt 16 = .ok (.iload_n 1, 1) := by decide +kernel
theorem tX0_rowsOfPieceAt_16 {d : Nat} {l0 : Option Value} {v0 : Value} {x : Int32} {m : jmM} {Q : Option Value → jmM → Prop} : AW d 8 16 [l0, some (.int x)] [v0] m Q ↔ AW d 8 17 [l0, some (.int x)] [.int x, v0] m Q := A_iload_n hB_X0_rowsOfPieceAt dX0_rowsOfPieceAt_16 rfl
theorem dX0_rowsOfPieceAt_17 : decode cX0_rowsOfPieceAt 17 = .ok (.iaload, 1) := by decide +kernel
theorem tX0_rowsOfPieceAt_17 {d : Nat} {l0 l1 : Option Value} {i : Int32} {a : Nat} {m : jmM} {Q : Option Value → jmM → Prop} : AW d 8 17 [l0, l1] [.int i, .ref a] m Q ↔ (((mS m a).1 = 20 ∨ a = jScr) ∧ jIx i (mS m a).2) ∧ AW d 8 18 [l0, l1] [.int (mI m a (jx i))] m Q := A_iaload hB_X0_rowsOfPieceAt dX0_rowsOfPieceAt_17
theorem dX0_rowsOfPieceAt_18 : decode cX0_rowsOfPieceAt 18 = .ok (.goto 4, 3) := by decide +kernel
theorem tX0_rowsOfPieceAt_18 {d : Nat} {l0 l1 : Option Value} {v0 : Value} {m : jmM} {Q : Option Value → jmM → Prop} : AW d 8 18 [l0, l1] [v0] m Q ↔ AW d 8 22 [l0, l1] [v0] m Q := A_goto hB_X0_rowsOfPieceAt dX0_rowsOfPieceAt_18 (by decide)
theorem dX0_rowsOfPieceAt_21 : decode cX0_rowsOfPieceAt 21 = .ok (.iconst 0, 1) := by decide +kernel
theorem tX0_rowsOfPieceAt_21 {d : Nat} {l0 l1 : Option Value} {m : jmM} {Q : Option Value → jmM → Prop} : AW d 8 21 [l0, l1] [] m Q ↔ AW d 8 22 [l0, l1] [.int 0] m Q := A_iconst hB_X0_rowsOfPieceAt dX0_rowsOfPieceAt_21 (by decide)
theorem dX0_rowsOfPieceAt_22 : decode cX0_rowsOfPieceAt 22 = .ok (.ireturn, 1) := by decide +kernel
theorem tX0_rowsOfPieceAt_22 {d : Nat} {l0 l1 : Option Value} {x : Int32} {m : jmM} {Q : Option Value → jmM → Prop} : AW d 8 22 [l0, l1] [.int x] m Q ↔ Q (some (.int x)) m := A_ireturn hB_X0_rowsOfPieceAt dX0_rowsOfPieceAt_22 hR_X0_rowsOfPieceAt
theorem hB_X0_coinsOfPieceAt : jB 9 = cX0_coinsOfPieceAt := rfl
theorem hO_X0_coinsOfPieceAt : jO 9 = 0 := rfl
theorem hR_X0_coinsOfPieceAt : jRt 9 = (some .int) := rfl
theorem nX0_coinsOfPieceAt (d : Nat) (x0 : Nat) (x1 : Int32) (m : jmM) (Q : Option Value → jmM → Prop) : CC (d + 1) 9 [.ref x0, .int x1] m Q ↔ AW d 9 0 [some (.ref x0), some (.int x1), none] [] m Q := CC_body (Nat.le_of_ble_eq_true rfl)
theorem dX0_coinsOfPieceAt_0 : decode cX0_coinsOfPieceAt 0 = .ok (.iload_n 1, 1) := by decide +kernel
theorem tX0_coinsOfPieceAt_0 {d : Nat} {l0 l2 : Option Value} {x : Int32} {m : jmM} {Q : Option Value → jmM → Prop} : AW d 9 0 [l0, some (.int x), l2] [] m Q ↔ AW d 9 1 [l0, some (.int x), l2] [.int x] m Q := A_iload_n hB_X0_coinsOfPieceAt dX0_coinsOfPieceAt_0 rfl
theorem dX0_coinsOfPieceAt_1 : decode cX0_coinsOfPieceAt 1 = .ok (.aload_n 0, 1) := by decide +kernel
theorem tX0_coinsOfPieceAt_1 {d : Nat} {l1 l2 : Option Value} {v0 : Value} {x : Nat} {m : jmM} {Q : Option Value → jmM → Prop} : AW d 9 1 [some (.ref x), l1, l2] [v0] m Q ↔ AW d 9 2 [some (.ref x), l1, l2] [.ref x, v0] m Q := A_aload_n hB_X0_coinsOfPieceAt dX0_coinsOfPieceAt_1 rfl
theorem dX0_coinsOfPieceAt_2 : decode cX0_coinsOfPieceAt 2 = .ok (.iload_n 1, 1) := by decide +kernel
theorem tX0_coinsOfPieceAt_2 {d : Nat} {l0 l2 : Option Value} {v0 v1 : Value} {x : Int32} {m : jmM} {Q : Option Value → jmM → Prop} : AW d 9 2 [l0, some (.int x), l2] [v0, v1] m Q ↔ AW d 9 3 [l0, some (.int x), l2] [.int x, v0, v1] m Q := A_iload_n hB_X0_coinsOfPieceAt dX0_coinsOfPieceAt_2 rfl
theorem dX0_coinsOfPieceAt_3 : decode cX0_coinsOfPieceAt 3 = .ok (.invokevirtual 75, 3) := by decide +kernel
theorem tX0_coinsOfPieceAt_3 {d : Nat} {l0 l1 l2 : Option Value} {v2 : Value} {y0 : Value} {a : Nat} {m : jmM} {Q : Option Value → jmM → Prop} : AW d 9 3 [l0, l1, l2] [y0, .ref a, v2] m Q ↔ (mS m a).1 = 0 ∧ CC d 8 [.ref a, y0] m (jK d 9 6 [l0, l1, l2] [v2] Q) := A_callV hB_X0_coinsOfPieceAt dX0_coinsOfPieceAt_3 hO_X0_coinsOfPieceAt fS_0_75 ⟨Nat.le_of_ble_eq_true rfl, Nat.le_of_ble_eq_true rfl⟩ rfl rfl rfl
theorem dX0_coinsOfPieceAt_6 : decode cX0_coinsOfPieceAt 6 = .ok (.iadd, 1) := by decide +kernel
theorem tX0_coinsOfPieceAt_6 {d : Nat} {l0 l1 l2 : Option Value} {x y : Int32} {m : jmM} {Q : Option Value → jmM → Prop} : AW d 9 6 [l0, l1, l2] [.int y, .int x] m Q ↔ AW d 9 7 [l0, l1, l2] [.int (x + y)] m Q := A_iadd hB_X0_coinsOfPieceAt dX0_coinsOfPieceAt_6
theorem dX0_coinsOfPieceAt_7 : decode cX0_coinsOfPieceAt 7 = .ok (.istore_n 2, 1) := by decide +kernel
theorem tX0_coinsOfPieceAt_7 {d : Nat} {l0 l1 l2 : Option Value} {x : Int32} {m : jmM} {Q : Option Value → jmM → Prop} : AW d 9 7 [l0, l1, l2] [.int x] m Q ↔ AW d 9 8 [l0, jc1 l1, some (.int x)] [] m Q := A_istore_n hB_X0_coinsOfPieceAt dX0_coinsOfPieceAt_7 (Nat.le_of_ble_eq_true rfl) rfl
theorem dX0_coinsOfPieceAt_8 : decode cX0_coinsOfPieceAt 8 = .ok (.iload_n 1, 1) := by decide +kernel
theorem tX0_coinsOfPieceAt_8 {d : Nat} {l0 l2 : Option Value} {x : Int32} {m : jmM} {Q : Option Value → jmM → Prop} : AW d 9 8 [l0, some (.int x), l2] [] m Q ↔ AW d 9 9 [l0, some (.int x), l2] [.int x] m Q := A_iload_n hB_X0_coinsOfPieceAt dX0_coinsOfPieceAt_8 rfl
theorem dX0_coinsOfPieceAt_9 : decode cX0_coinsOfPieceAt 9 = .ok (.ifCond .lt 27, 3) := by decide +kernel
theorem tX0_coinsOfPieceAt_9 {d : Nat} {l0 l1 l2 : Option Value} {x : Int32} {m : jmM} {Q : Option Value → jmM → Prop} : AW d 9 9 [l0, l1, l2] [.int x] m Q ↔ if x < 0 then AW d 9 36 [l0, l1, l2] [] m Q else AW d 9 12 [l0, l1, l2] [] m Q := A_if_lt hB_X0_coinsOfPieceAt dX0_coinsOfPieceAt_9 (by decide)
theorem dX0_coinsOfPieceAt_12 : decode cX0_coinsOfPieceAt 12 = .ok (.iload_n 2, 1) := by decide +kernel
theorem tX0_coinsOfPieceAt_12 {d : Nat} {l0 l1 : Option Value} {x : Int32} {m : jmM} {Q : Option Value → jmM → Prop} : AW d 9 12 [l0, l1, some (.int x)] [] m Q ↔ AW d 9 13 [l0, l1, some (.int x)] [.int x] m Q := A_iload_n hB_X0_coinsOfPieceAt dX0_coinsOfPieceAt_12 rfl
theorem dX0_coinsOfPieceAt_13 : decode cX0_coinsOfPieceAt 13 = .ok (.aload_n 0, 1) := by decide +kernel
theorem tX0_coinsOfPieceAt_13 {d : Nat} {l1 l2 : Option Value} {v0 : Value} {x : Nat} {m : jmM} {Q : Option Value → jmM → Prop} : AW d 9 13 [some (.ref x), l1, l2] [v0] m Q ↔ AW d 9 14 [some (.ref x), l1, l2] [.ref x, v0] m Q := A_aload_n hB_X0_coinsOfPieceAt dX0_coinsOfPieceAt_13 rfl
theorem dX0_coinsOfPieceAt_14 : decode cX0_coinsOfPieceAt 14 = .ok (.getfield 27, 3) := by decide +kernel
theorem tX0_coinsOfPieceAt_14 {d : Nat} {l0 l1 l2 : Option Value} {v1 : Value} {a : Nat} {m : jmM} {Q : Option Value → jmM → Prop} : AW d 9 14 [l0, l1, l2] [.ref a, v1] m Q ↔ (mS m a).1 = 0 ∧ AW d 9 17 [l0, l1, l2] [.int (mI m a 5), v1] m Q := A_getfield (f := fun m a => .int (mI m a 5)) hB_X0_coinsOfPieceAt dX0_coinsOfPieceAt_14 hO_X0_coinsOfPieceAt fF_0_27 rfl
theorem dX0_coinsOfPieceAt_17 : decode cX0_coinsOfPieceAt 17 = .ok (.if_icmp .gt 19, 3) := by decide +kernel
theorem tX0_coinsOfPieceAt_17 {d : Nat} {l0 l1 l2 : Option Value} {x y : Int32} {m : jmM} {Q : Option Value → jmM → Prop} : AW d 9 17 [l0, l1, l2] [.int y, .int x] m Q ↔ if y < x then AW d 9 36 [l0, l1, l2] [] m Q else AW d 9 20 [l0, l1, l2] [] m Q := A_icmp_gt hB_X0_coinsOfPieceAt dX0_coinsOfPieceAt_17 (by decide)
theorem dX0_coinsOfPieceAt_20 : decode cX0_coinsOfPieceAt 20 = .ok (.aload_n 0, 1) := by decide +kernel
theorem tX0_coinsOfPieceAt_20 {d : Nat} {l1 l2 : Option Value} {x : Nat} {m : jmM} {Q : Option Value → jmM → Prop} : AW d 9 20 [some (.ref x), l1, l2] [] m Q ↔ AW d 9 21 [some (.ref x), l1, l2] [.ref x] m Q := A_aload_n hB_X0_coinsOfPieceAt dX0_coinsOfPieceAt_20 rfl
theorem dX0_coinsOfPieceAt_21 : decode cX0_coinsOfPieceAt 21 = .ok (.getfield 9, 3) := by decide +kernel
theorem tX0_coinsOfPieceAt_21 {d : Nat} {l0 l1 l2 : Option Value} {a : Nat} {m : jmM} {Q : Option Value → jmM → Prop} : AW d 9 21 [l0, l1, l2] [.ref a] m Q ↔ (mS m a).1 = 0 ∧ AW d 9 24 [l0, l1, l2] [va_rf (mR m a 0)] m Q := A_getfield (f := fun m a => va_rf (mR m a 0)) hB_X0_coinsOfPieceAt dX0_coinsOfPieceAt_21 hO_X0_coinsOfPieceAt fF_0_9 rfl
theorem dX0_coinsOfPieceAt_24 : decode cX0_coinsOfPieceAt 24 = .ok (.iload_n 1, 1) := by decide +kernel
theorem tX0_coinsOfPieceAt_24 {d : Nat} {l0 l2 : Option Value} {v0 : Value} {x : Int32} {m : jmM} {Q : Option Value → jmM → Prop} : AW d 9 24 [l0, some (.int x), l2] [v0] m Q ↔ AW d 9 25 [l0, some (.int x), l2] [.int x, v0] m Q := A_iload_n hB_X0_coinsOfPieceAt dX0_coinsOfPieceAt_24 rfl
theorem dX0_coinsOfPieceAt_25 : decode cX0_coinsOfPieceAt 25 = .ok (.iaload, 1) := by decide +kernel
theorem tX0_coinsOfPieceAt_25 {d : Nat} {l0 l1 l2 : Option Value} {i : Int32} {a : Nat} {m : jmM} {Q : Option Value → jmM → Prop} : AW d 9 25 [l0, l1, l2] [.int i, .ref a] m Q ↔ (((mS m a).1 = 20 ∨ a = jScr) ∧ jIx i (mS m a).2) ∧ AW d 9 26 [l0, l1, l2] [.int (mI m a (jx i))] m Q := A_iaload hB_X0_coinsOfPieceAt dX0_coinsOfPieceAt_25
theorem dX0_coinsOfPieceAt_26 : decode cX0_coinsOfPieceAt 26 = .ok (.aload_n 0, 1) := by decide +kernel
theorem tX0_coinsOfPieceAt_26 {d : Nat} {l1 l2 : Option Value} {v0 : Value} {x : Nat} {m : jmM} {Q : Option Value → jmM → Prop} : AW d 9 26 [some (.ref x), l1, l2] [v0] m Q ↔ AW d 9 27 [some (.ref x), l1, l2] [.ref x, v0] m Q := A_aload_n hB_X0_coinsOfPieceAt dX0_coinsOfPieceAt_26 rfl
theorem dX0_coinsOfPieceAt_27 : decode cX0_coinsOfPieceAt 27 = .ok (.getfield 9, 3) := by decide +kernel
theorem tX0_coinsOfPieceAt_27 {d : Nat} {l0 l1 l2 : Option Value} {v1 : Value} {a : Nat} {m : jmM} {Q : Option Value → jmM → Prop} : AW d 9 27 [l0, l1, l2] [.ref a, v1] m Q ↔ (mS m a).1 = 0 ∧ AW d 9 30 [l0, l1, l2] [va_rf (mR m a 0), v1] m Q := A_getfield (f := fun m a => va_rf (mR m a 0)) hB_X0_coinsOfPieceAt dX0_coinsOfPieceAt_27 hO_X0_coinsOfPieceAt fF_0_9 rfl
theorem dX0_coinsOfPieceAt_30 : decode cX0_coinsOfPieceAt 30 = .ok (.iload_n 2, 1) := by decide +kernel
theorem tX0_coinsOfPieceAt_30 {d : Nat} {l0 l1 : Option Value} {v0 v1 : Value} {x : Int32} {m : jmM} {Q : Option Value → jmM → Prop} : AW d 9 30 [l0, l1, some (.int x)] [v0, v1] m Q ↔ AW d 9 31 [l0, l1, some (.int x)] [.int x, v0, v1] m Q := A_iload_n hB_X0_coinsOfPieceAt dX0_coinsOfPieceAt_30 rfl
theorem dX0_coinsOfPieceAt_31 : decode cX0_coinsOfPieceAt 31 = .ok (.iaload, 1) := by decide +kernel
theorem tX0_coinsOfPieceAt_31 {d : Nat} {l0 l1 l2 : Option Value} {v2 : Value} {i : Int32} {a : Nat} {m : jmM} {Q : Option Value → jmM → Prop} : AW d 9 31 [l0, l1, l2] [.int i, .ref a, v2] m Q ↔ (((mS m a).1 = 20 ∨ a = jScr) ∧ jIx i (mS m a).2) ∧ AW d 9 32 [l0, l1, l2] [.int (mI m a (jx i)), v2] m Q := A_iaload hB_X0_coinsOfPieceAt dX0_coinsOfPieceAt_31
theorem dX0_coinsOfPieceAt_32 : decode cX0_coinsOfPieceAt 32 = .ok (.isub, 1) := by decide +kernel
theorem tX0_coinsOfPieceAt_32 {d : Nat} {l0 l1 l2 : Option Value} {x y : Int32} {m : jmM} {Q : Option Value → jmM → Prop} : AW d 9 32 [l0, l1, l2] [.int y, .int x] m Q ↔ AW d 9 33 [l0, l1, l2] [.int (x - y)] m Q := A_isub hB_X0_coinsOfPieceAt dX0_coinsOfPieceAt_32
theorem dX0_coinsOfPieceAt_33 : decode cX0_coinsOfPieceAt 33 = .ok (.goto 4, 3) := by decide +kernel
theorem tX0_coinsOfPieceAt_33 {d : Nat} {l0 l1 l2 : Option Value} {v0 : Value} {m : jmM} {Q : Option Value → jmM → Prop} : AW d 9 33 [l0, l1, l2] [v0] m Q ↔ AW d 9 37 [l0, l1, l2] [v0] m Q := A_goto hB_X0_coinsOfPieceAt dX0_coinsOfPieceAt_33 (by decide)
theorem dX0_coinsOfPieceAt_36 : decode cX0_coinsOfPieceAt 36 = .ok (.iconst 0, 1) := by decide +kernel
theorem tX0_coinsOfPieceAt_36 {d : Nat} {l0 l1 l2 : Option Value} {m : jmM} {Q : Option Value → jmM → Prop} : AW d 9 36 [l0, l1, l2] [] m Q ↔ AW d 9 37 [l0, l1, l2] [.int 0] m Q := A_iconst hB_X0_coinsOfPieceAt dX0_coinsOfPieceAt_36 (by decide)
theorem dX0_coinsOfPieceAt_37 : decode cX0_coinsOfPieceAt 37 = .ok (.ireturn, 1) := by decide +kernel
theorem tX0_coinsOfPieceAt_37 {d : Nat} {l0 l1 l2 : Option Value} {x : Int32} {m : jmM} {Q : Option Value → jmM → Prop} : AW d 9 37 [l0, l1, l2] [.int x] m Q ↔ Q (some (.int x)) m := A_ireturn hB_X0_coinsOfPieceAt dX0_coinsOfPieceAt_37 hR_X0_coinsOfPieceAt
