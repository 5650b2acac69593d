/-! steps of PulledCrystal$Slices, by program -/
theorem hB_X7_init : jB 112 = cX7_init := rfl
theorem hO_X7_init : jO 112 = 7 := rfl
theorem hR_X7_init : jRt 112 = none := rfl
theorem nX7_init (d : Nat) (x0 : Nat) (m : jmM) (Q : Option Value → jmM → Prop) : CC (d + 1) 112 [.ref x0] m Q ↔ AW d 112 0 [some (.ref x0)] [] m Q := CC_body (Nat.le_of_ble_eq_true rfl)
theorem dX7_init_0 : decode cX7_init 0 = .ok (.aload_n 0, 1) := by decide +kernel
theorem tX7_init_0 {d : Nat} {x : Nat} {m : jmM} {Q : Option Value → jmM → Prop} : AW d 112 0 [some (.ref x)] [] m Q ↔ AW d 112 1 [some (.ref x)] [.ref x] m Q := A_aload_n hB_X7_init dX7_init_0 rfl
theorem dX7_init_1 : decode cX7_init 1 = .ok (.invokespecial 3, 3) := by decide +kernel
theorem tX7_init_1 {d : Nat} {l0 : Option Value} {a : Nat} {m : jmM} {Q : Option Value → jmM → Prop} : AW d 112 1 [l0] [.ref a] m Q ↔ AW d 112 4 [l0] [] m Q := A_obj hB_X7_init dX7_init_1 hO_X7_init fS_7_3 (Nat.le_of_ble_eq_true rfl)
theorem dX7_init_4 : decode cX7_init 4 = .ok (.aload_n 0, 1) := by decide +kernel
theorem tX7_init_4 {d : Nat} {x : Nat} {m : jmM} {Q : Option Value → jmM → Prop} : AW d 112 4 [some (.ref x)] [] m Q ↔ AW d 112 5 [some (.ref x)] [.ref x] m Q := A_aload_n hB_X7_init dX7_init_4 rfl
theorem dX7_init_5 : decode cX7_init 5 = .ok (.bipush 100, 2) := by decide +kernel
theorem tX7_init_5 {d : Nat} {l0 : Option Value} {v0 : Value} {m : jmM} {Q : Option Value → jmM → Prop} : AW d 112 5 [l0] [v0] m Q ↔ AW d 112 7 [l0] [.int 100, v0] m Q := A_bipush hB_X7_init dX7_init_5 rfl
theorem dX7_init_7 : decode cX7_init 7 = .ok (.newarray .int, 2) := by decide +kernel
theorem tX7_init_7 {d : Nat} {l0 : Option Value} {v1 : Value} {x : Int32} {m : jmM} {Q : Option Value → jmM → Prop} : AW d 112 7 [l0] [.int x, v1] m Q ↔ (0 ≤ x.toInt ∧ x.toInt ≤ 100000) ∧ AW d 112 9 [l0] [.ref (mN m), v1] (jNew m 20 (jx x)) Q := A_newarray hB_X7_init dX7_init_7 rfl
theorem dX7_init_9 : decode cX7_init 9 = .ok (.putfield 9, 3) := by decide +kernel
theorem tX7_init_9 {d : Nat} {l0 : Option Value} {x a : Nat} {m : jmM} {Q : Option Value → jmM → Prop} : AW d 112 9 [l0] [.ref x, .ref a] m Q ↔ (mS m a).1 = 7 ∧ AW d 112 12 [l0] [] (cR m a (jup (mR m a) 0 (some x))) Q := A_putR hB_X7_init dX7_init_9 hO_X7_init fF_7_9 rfl (fun _ => ⟨rfl, rfl⟩)
theorem tX7_init_9q {d : Nat} {l0 : Option Value} {x : Option Nat} {a : Nat} {m : jmM} {Q : Option Value → jmM → Prop} : AW d 112 9 [l0] [va_rf x, .ref a] m Q ↔ (mS m a).1 = 7 ∧ AW d 112 12 [l0] [] (cR m a (jup (mR m a) 0 x)) Q := A_putQ hB_X7_init dX7_init_9 hO_X7_init fF_7_9 rfl (fun _ => ⟨rfl, rfl⟩)
theorem tX7_init_9n {d : Nat} {l0 : Option Value} {a : Nat} {m : jmM} {Q : Option Value → jmM → Prop} : AW d 112 9 [l0] [.null, .ref a] m Q ↔ (mS m a).1 = 7 ∧ AW d 112 12 [l0] [] (cR m a (jup (mR m a) 0 none)) Q := A_putQ (x := none) hB_X7_init dX7_init_9 hO_X7_init fF_7_9 rfl (fun _ => ⟨rfl, rfl⟩)
theorem dX7_init_12 : decode cX7_init 12 = .ok (.aload_n 0, 1) := by decide +kernel
theorem tX7_init_12 {d : Nat} {x : Nat} {m : jmM} {Q : Option Value → jmM → Prop} : AW d 112 12 [some (.ref x)] [] m Q ↔ AW d 112 13 [some (.ref x)] [.ref x] m Q := A_aload_n hB_X7_init dX7_init_12 rfl
theorem dX7_init_13 : decode cX7_init 13 = .ok (.bipush 100, 2) := by decide +kernel
theorem tX7_init_13 {d : Nat} {l0 : Option Value} {v0 : Value} {m : jmM} {Q : Option Value → jmM → Prop} : AW d 112 13 [l0] [v0] m Q ↔ AW d 112 15 [l0] [.int 100, v0] m Q := A_bipush hB_X7_init dX7_init_13 rfl
theorem dX7_init_15 : decode cX7_init 15 = .ok (.newarray .int, 2) := by decide +kernel
theorem tX7_init_15 {d : Nat} {l0 : Option Value} {v1 : Value} {x : Int32} {m : jmM} {Q : Option Value → jmM → Prop} : AW d 112 15 [l0] [.int x, v1] m Q ↔ (0 ≤ x.toInt ∧ x.toInt ≤ 100000) ∧ AW d 112 17 [l0] [.ref (mN m), v1] (jNew m 20 (jx x)) Q := A_newarray hB_X7_init dX7_init_15 rfl
theorem dX7_init_17 : decode cX7_init 17 = .ok (.putfield 15, 3) := by decide +kernel
theorem tX7_init_17 {d : Nat} {l0 : Option Value} {x a : Nat} {m : jmM} {Q : Option Value → jmM → Prop} : AW d 112 17 [l0] [.ref x, .ref a] m Q ↔ (mS m a).1 = 7 ∧ AW d 112 20 [l0] [] (cR m a (jup (mR m a) 1 (some x))) Q := A_putR hB_X7_init dX7_init_17 hO_X7_init fF_7_15 rfl (fun _ => ⟨rfl, rfl⟩)
theorem tX7_init_17q {d : Nat} {l0 : Option Value} {x : Option Nat} {a : Nat} {m : jmM} {Q : Option Value → jmM → Prop} : AW d 112 17 [l0] [va_rf x, .ref a] m Q ↔ (mS m a).1 = 7 ∧ AW d 112 20 [l0] [] (cR m a (jup (mR m a) 1 x)) Q := A_putQ hB_X7_init dX7_init_17 hO_X7_init fF_7_15 rfl (fun _ => ⟨rfl, rfl⟩)
theorem tX7_init_17n {d : Nat} {l0 : Option Value} {a : Nat} {m : jmM} {Q : Option Value → jmM → Prop} : AW d 112 17 [l0] [.null, .ref a] m Q ↔ (mS m a).1 = 7 ∧ AW d 112 20 [l0] [] (cR m a (jup (mR m a) 1 none)) Q := A_putQ (x := none) hB_X7_init dX7_init_17 hO_X7_init fF_7_15 rfl (fun _ => ⟨rfl, rfl⟩)
theorem dX7_init_20 : decode cX7_init 20 = .ok (.aload_n 0, 1) := by decide +kernel
theorem tX7_init_20 {d : Nat} {x : Nat} {m : jmM} {Q : Option Value → jmM → Prop} : AW d 112 20 [some (.ref x)] [] m Q ↔ AW d 112 21 [some (.ref x)] [.ref x] m Q := A_aload_n hB_X7_init dX7_init_20 rfl
theorem dX7_init_21 : decode cX7_init 21 = .ok (.bipush 100, 2) := by decide +kernel
theorem tX7_init_21 {d : Nat} {l0 : Option Value} {v0 : Value} {m : jmM} {Q : Option Value → jmM → Prop} : AW d 112 21 [l0] [v0] m Q ↔ AW d 112 23 [l0] [.int 100, v0] m Q := A_bipush hB_X7_init dX7_init_21 rfl
theorem dX7_init_23 : decode cX7_init 23 = .ok (.newarray .int, 2) := by decide +kernel
theorem tX7_init_23 {d : Nat} {l0 : Option Value} {v1 : Value} {x : Int32} {m : jmM} {Q : Option Value → jmM → Prop} : AW d 112 23 [l0] [.int x, v1] m Q ↔ (0 ≤ x.toInt ∧ x.toInt ≤ 100000) ∧ AW d 112 25 [l0] [.ref (mN m), v1] (jNew m 20 (jx x)) Q := A_newarray hB_X7_init dX7_init_23 rfl
theorem dX7_init_25 : decode cX7_init 25 = .ok (.putfield 18, 3) := by decide +kernel
theorem tX7_init_25 {d : Nat} {l0 : Option Value} {x a : Nat} {m : jmM} {Q : Option Value → jmM → Prop} : AW d 112 25 [l0] [.ref x, .ref a] m Q ↔ (mS m a).1 = 7 ∧ AW d 112 28 [l0] [] (cR m a (jup (mR m a) 2 (some x))) Q := A_putR hB_X7_init dX7_init_25 hO_X7_init fF_7_18 rfl (fun _ => ⟨rfl, rfl⟩)
theorem tX7_init_25q {d : Nat} {l0 : Option Value} {x : Option Nat} {a : Nat} {m : jmM} {Q : Option Value → jmM → Prop} : AW d 112 25 [l0] [va_rf x, .ref a] m Q ↔ (mS m a).1 = 7 ∧ AW d 112 28 [l0] [] (cR m a (jup (mR m a) 2 x)) Q := A_putQ hB_X7_init dX7_init_25 hO_X7_init fF_7_18 rfl (fun _ => ⟨rfl, rfl⟩)
theorem tX7_init_25n {d : Nat} {l0 : Option Value} {a : Nat} {m : jmM} {Q : Option Value → jmM → Prop} : AW d 112 25 [l0] [.null, .ref a] m Q ↔ (mS m a).1 = 7 ∧ AW d 112 28 [l0] [] (cR m a (jup (mR m a) 2 none)) Q := A_putQ (x := none) hB_X7_init dX7_init_25 hO_X7_init fF_7_18 rfl (fun _ => ⟨rfl, rfl⟩)
theorem dX7_init_28 : decode cX7_init 28 = .ok (.aload_n 0, 1) := by decide +kernel
theorem tX7_init_28 {d : Nat} {x : Nat} {m : jmM} {Q : Option Value → jmM → Prop} : AW d 112 28 [some (.ref x)] [] m Q ↔ AW d 112 29 [some (.ref x)] [.ref x] m Q := A_aload_n hB_X7_init dX7_init_28 rfl
theorem dX7_init_29 : decode cX7_init 29 = .ok (.bipush 100, 2) := by decide +kernel
theorem tX7_init_29 {d : Nat} {l0 : Option Value} {v0 : Value} {m : jmM} {Q : Option Value → jmM → Prop} : AW d 112 29 [l0] [v0] m Q ↔ AW d 112 31 [l0] [.int 100, v0] m Q := A_bipush hB_X7_init dX7_init_29 rfl
theorem dX7_init_31 : decode cX7_init 31 = .ok (.newarray .int, 2) := by decide +kernel
theorem tX7_init_31 {d : Nat} {l0 : Option Value} {v1 : Value} {x : Int32} {m : jmM} {Q : Option Value → jmM → Prop} : AW d 112 31 [l0] [.int x, v1] m Q ↔ (0 ≤ x.toInt ∧ x.toInt ≤ 100000) ∧ AW d 112 33 [l0] [.ref (mN m), v1] (jNew m 20 (jx x)) Q := A_newarray hB_X7_init dX7_init_31 rfl
theorem dX7_init_33 : decode cX7_init 33 = .ok (.putfield 21, 3) := by decide +kernel
theorem tX7_init_33 {d : Nat} {l0 : Option Value} {x a : Nat} {m : jmM} {Q : Option Value → jmM → Prop} : AW d 112 33 [l0] [.ref x, .ref a] m Q ↔ (mS m a).1 = 7 ∧ AW d 112 36 [l0] [] (cR m a (jup (mR m a) 3 (some x))) Q := A_putR hB_X7_init dX7_init_33 hO_X7_init fF_7_21 rfl (fun _ => ⟨rfl, rfl⟩)
theorem tX7_init_33q {d : Nat} {l0 : Option Value} {x : Option Nat} {a : Nat} {m : jmM} {Q : Option Value → jmM → Prop} : AW d 112 33 [l0] [va_rf x, .ref a] m Q ↔ (mS m a).1 = 7 ∧ AW d 112 36 [l0] [] (cR m a (jup (mR m a) 3 x)) Q := A_putQ hB_X7_init dX7_init_33 hO_X7_init fF_7_21 rfl (fun _ => ⟨rfl, rfl⟩)
theorem tX7_init_33n {d : Nat} {l0 : Option Value} {a : Nat} {m : jmM} {Q : Option Value → jmM → Prop} : AW d 112 33 [l0] [.null, .ref a] m Q ↔ (mS m a).1 = 7 ∧ AW d 112 36 [l0] [] (cR m a (jup (mR m a) 3 none)) Q := A_putQ (x := none) hB_X7_init dX7_init_33 hO_X7_init fF_7_21 rfl (fun _ => ⟨rfl, rfl⟩)
theorem dX7_init_36 : decode cX7_init 36 = .ok (.aload_n 0, 1) := by decide +kernel
theorem tX7_init_36 {d : Nat} {x : Nat} {m : jmM} {Q : Option Value → jmM → Prop} : AW d 112 36 [some (.ref x)] [] m Q ↔ AW d 112 37 [some (.ref x)] [.ref x] m Q := A_aload_n hB_X7_init dX7_init_36 rfl
theorem dX7_init_37 : decode cX7_init 37 = .ok (.iconst 0, 1) := by decide +kernel
theorem tX7_init_37 {d : Nat} {l0 : Option Value} {v0 : Value} {m : jmM} {Q : Option Value → jmM → Prop} : AW d 112 37 [l0] [v0] m Q ↔ AW d 112 38 [l0] [.int 0, v0] m Q := A_iconst hB_X7_init dX7_init_37 (by decide)
theorem dX7_init_38 : decode cX7_init 38 = .ok (.putfield 24, 3) := by decide +kernel
theorem tX7_init_38 {d : Nat} {l0 : Option Value} {x : Int32} {a : Nat} {m : jmM} {Q : Option Value → jmM → Prop} : AW d 112 38 [l0] [.int x, .ref a] m Q ↔ (mS m a).1 = 7 ∧ AW d 112 41 [l0] [] (cI m a (jup (mI m a) 4 x)) Q := A_putI hB_X7_init dX7_init_38 hO_X7_init fF_7_24 rfl (fun h => Bool.noConfusion h)
theorem dX7_init_41 : decode cX7_init 41 = .ok (.aload_n 0, 1) := by decide +kernel
theorem tX7_init_41 {d : Nat} {x : Nat} {m : jmM} {Q : Option Value → jmM → Prop} : AW d 112 41 [some (.ref x)] [] m Q ↔ AW d 112 42 [some (.ref x)] [.ref x] m Q := A_aload_n hB_X7_init dX7_init_41 rfl
theorem dX7_init_42 : decode cX7_init 42 = .ok (.sipush 600, 3) := by decide +kernel
theorem tX7_init_42 {d : Nat} {l0 : Option Value} {v0 : Value} {m : jmM} {Q : Option Value → jmM → Prop} : AW d 112 42 [l0] [v0] m Q ↔ AW d 112 45 [l0] [.int 600, v0] m Q := A_sipush hB_X7_init dX7_init_42 rfl
theorem dX7_init_45 : decode cX7_init 45 = .ok (.newarray .long, 2) := by decide +kernel
theorem tX7_init_45 {d : Nat} {l0 : Option Value} {v1 : Value} {x : Int32} {m : jmM} {Q : Option Value → jmM → Prop} : AW d 112 45 [l0] [.int x, v1] m Q ↔ (0 ≤ x.toInt ∧ x.toInt ≤ 100000) ∧ AW d 112 47 [l0] [.ref (mN m), v1] (jNew m 21 (jx x)) Q := A_newarray hB_X7_init dX7_init_45 rfl
theorem dX7_init_47 : decode cX7_init 47 = .ok (.putfield 28, 3) := by decide +kernel
theorem tX7_init_47 {d : Nat} {l0 : Option Value} {x a : Nat} {m : jmM} {Q : Option Value → jmM → Prop} : AW d 112 47 [l0] [.ref x, .ref a] m Q ↔ (mS m a).1 = 7 ∧ AW d 112 50 [l0] [] (cR m a (jup (mR m a) 5 (some x))) Q := A_putR hB_X7_init dX7_init_47 hO_X7_init fF_7_28 rfl (fun _ => ⟨rfl, rfl⟩)
theorem tX7_init_47q {d : Nat} {l0 : Option Value} {x : Option Nat} {a : Nat} {m : jmM} {Q : Option Value → jmM → Prop} : AW d 112 47 [l0] [va_rf x, .ref a] m Q ↔ (mS m a).1 = 7 ∧ AW d 112 50 [l0] [] (cR m a (jup (mR m a) 5 x)) Q := A_putQ hB_X7_init dX7_init_47 hO_X7_init fF_7_28 rfl (fun _ => ⟨rfl, rfl⟩)
theorem tX7_init_47n {d : Nat} {l0 : Option Value} {a : Nat} {m : jmM} {Q : Option Value → jmM → Prop} : AW d 112 47 [l0] [.null, .ref a] m Q ↔ (mS m a).1 = 7 ∧ AW d 112 50 [l0] [] (cR m a (jup (mR m a) 5 none)) Q := A_putQ (x := none) hB_X7_init dX7_init_47 hO_X7_init fF_7_28 rfl (fun _ => ⟨rfl, rfl⟩)
theorem dX7_init_50 : decode cX7_init 50 = .ok (.aload_n 0, 1) := by decide +kernel
theorem tX7_init_50 {d : Nat} {x : Nat} {m : jmM} {Q : Option Value → jmM → Prop} : AW d 112 50 [some (.ref x)] [] m Q ↔ AW d 112 51 [some (.ref x)] [.ref x] m Q := A_aload_n hB_X7_init dX7_init_50 rfl
theorem dX7_init_51 : decode cX7_init 51 = .ok (.sipush 600, 3) := by decide +kernel
theorem tX7_init_51 {d : Nat} {l0 : Option Value} {v0 : Value} {m : jmM} {Q : Option Value → jmM → Prop} : AW d 112 51 [l0] [v0] m Q ↔ AW d 112 54 [l0] [.int 600, v0] m Q := A_sipush hB_X7_init dX7_init_51 rfl
theorem dX7_init_54 : decode cX7_init 54 = .ok (.newarray .long, 2) := by decide +kernel
theorem tX7_init_54 {d : Nat} {l0 : Option Value} {v1 : Value} {x : Int32} {m : jmM} {Q : Option Value → jmM → Prop} : AW d 112 54 [l0] [.int x, v1] m Q ↔ (0 ≤ x.toInt ∧ x.toInt ≤ 100000) ∧ AW d 112 56 [l0] [.ref (mN m), v1] (jNew m 21 (jx x)) Q := A_newarray hB_X7_init dX7_init_54 rfl
theorem dX7_init_56 : decode cX7_init 56 = .ok (.putfield 32, 3) := by decide +kernel
theorem tX7_init_56 {d : Nat} {l0 : Option Value} {x a : Nat} {m : jmM} {Q : Option Value → jmM → Prop} : AW d 112 56 [l0] [.ref x, .ref a] m Q ↔ (mS m a).1 = 7 ∧ AW d 112 59 [l0] [] (cR m a (jup (mR m a) 6 (some x))) Q := A_putR hB_X7_init dX7_init_56 hO_X7_init fF_7_32 rfl (fun _ => ⟨rfl, rfl⟩)
theorem tX7_init_56q {d : Nat} {l0 : Option Value} {x : Option Nat} {a : Nat} {m : jmM} {Q : Option Value → jmM → Prop} : AW d 112 56 [l0] [va_rf x, .ref a] m Q ↔ (mS m a).1 = 7 ∧ AW d 112 59 [l0] [] (cR m a (jup (mR m a) 6 x)) Q := A_putQ hB_X7_init dX7_init_56 hO_X7_init fF_7_32 rfl (fun _ => ⟨rfl, rfl⟩)
theorem tX7_init_56n {d : Nat} {l0 : Option Value} {a : Nat} {m : jmM} {Q : Option Value → jmM → Prop} : AW d 112 56 [l0] [.null, .ref a] m Q ↔ (mS m a).1 = 7 ∧ AW d 112 59 [l0] [] (cR m a (jup (mR m a) 6 none)) Q := A_putQ (x := none) hB_X7_init dX7_init_56 hO_X7_init fF_7_32 rfl (fun _ => ⟨rfl, rfl⟩)
theorem dX7_init_59 : decode cX7_init 59 = .ok (.aload_n 0, 1) := by decide +kernel
theorem tX7_init_59 {d : Nat} {x : Nat} {m : jmM} {Q : Option Value → jmM → Prop} : AW d 112 59 [some (.ref x)] [] m Q ↔ AW d 112 60 [some (.ref x)] [.ref x] m Q := A_aload_n hB_X7_init dX7_init_59 rfl
theorem dX7_init_60 : decode cX7_init 60 = .ok (.iconst 0, 1) := by decide +kernel
theorem tX7_init_60 {d : Nat} {l0 : Option Value} {v0 : Value} {m : jmM} {Q : Option Value → jmM → Prop} : AW d 112 60 [l0] [v0] m Q ↔ AW d 112 61 [l0] [.int 0, v0] m Q := A_iconst hB_X7_init dX7_init_60 (by decide)
theorem dX7_init_61 : decode cX7_init 61 = .ok (.putfield 35, 3) := by decide +kernel
theorem tX7_init_61 {d : Nat} {l0 : Option Value} {x : Int32} {a : Nat} {m : jmM} {Q : Option Value → jmM → Prop} : AW d 112 61 [l0] [.int x, .ref a] m Q ↔ (mS m a).1 = 7 ∧ AW d 112 64 [l0] [] (cI m a (jup (mI m a) 7 x)) Q := A_putI hB_X7_init dX7_init_61 hO_X7_init fF_7_35 rfl (fun h => Bool.noConfusion h)
theorem dX7_init_64 : decode cX7_init 64 = .ok (.return_, 1) := by decide +kernel
theorem tX7_init_64 {d : Nat} {l0 : Option Value} {m : jmM} {Q : Option Value → jmM → Prop} : AW d 112 64 [l0] [] m Q ↔ Q none m := A_return hB_X7_init dX7_init_64 hR_X7_init
theorem hB_X7_size : jB 113 = cX7_size := rfl
theorem hO_X7_size : jO 113 = 7 := rfl
theorem hR_X7_size : jRt 113 = (some .int) := rfl
theorem nX7_size (d : Nat) (x0 : Nat) (m : jmM) (Q : Option Value → jmM → Prop) : CC (d + 1) 113 [.ref x0] m Q ↔ AW d 113 0 [some (.ref x0)] [] m Q := CC_body (Nat.le_of_ble_eq_true rfl)
theorem dX7_size_0 : decode cX7_size 0 = .ok (.aload_n 0, 1) := by decide +kernel
theorem tX7_size_0 {d : Nat} {x : Nat} {m : jmM} {Q : Option Value → jmM → Prop} : AW d 113 0 [some (.ref x)] [] m Q ↔ AW d 113 1 [some (.ref x)] [.ref x] m Q := A_aload_n hB_X7_size dX7_size_0 rfl
theorem dX7_size_1 : decode cX7_size 1 = .ok (.getfield 24, 3) := by decide +kernel
theorem tX7_size_1 {d : Nat} {l0 : Option Value} {a : Nat} {m : jmM} {Q : Option Value → jmM → Prop} : AW d 113 1 [l0] [.ref a] m Q ↔ (mS m a).1 = 7 ∧ AW d 113 4 [l0] [.int (mI m a 4)] m Q := A_getfield (f := fun m a => .int (mI m a 4)) hB_X7_size dX7_size_1 hO_X7_size fF_7_24 rfl
theorem dX7_size_4 : decode cX7_size 4 = .ok (.ireturn, 1) := by decide +kernel
theorem tX7_size_4 {d : Nat} {l0 : Option Value} {x : Int32} {m : jmM} {Q : Option Value → jmM → Prop} : AW d 113 4 [l0] [.int x] m Q ↔ Q (some (.int x)) m := A_ireturn hB_X7_size dX7_size_4 hR_X7_size
theorem hB_X7_isFull : jB 114 = cX7_isFull := rfl
theorem hO_X7_isFull : jO 114 = 7 := rfl
theorem hR_X7_isFull : jRt 114 = (some .boolean) := rfl
theorem nX7_isFull (d : Nat) (x0 : Nat) (m : jmM) (Q : Option Value → jmM → Prop) : CC (d + 1) 114 [.ref x0] m Q ↔ AW d 114 0 [some (.ref x0)] [] m Q := CC_body (Nat.le_of_ble_eq_true rfl)
theorem dX7_isFull_0 : decode cX7_isFull 0 = .ok (.aload_n 0, 1) := by decide +kernel
theorem tX7_isFull_0 {d : Nat} {x : Nat} {m : jmM} {Q : Option Value → jmM → Prop} : AW d 114 0 [some (.ref x)] [] m Q ↔ AW d 114 1 [some (.ref x)] [.ref x] m Q := A_aload_n hB_X7_isFull dX7_isFull_0 rfl
theorem dX7_isFull_1 : decode cX7_isFull 1 = .ok (.getfield 24, 3) := by decide +kernel
theorem tX7_isFull_1 {d : Nat} {l0 : Option Value} {a : Nat} {m : jmM} {Q : Option Value → jmM → Prop} : AW d 114 1 [l0] [.ref a] m Q ↔ (mS m a).1 = 7 ∧ AW d 114 4 [l0] [.int (mI m a 4)] m Q := A_getfield (f := fun m a => .int (mI m a 4)) hB_X7_isFull dX7_isFull_1 hO_X7_isFull fF_7_24 rfl
theorem dX7_isFull_4 : decode cX7_isFull 4 = .ok (.bipush 100, 2) := by decide +kernel
theorem tX7_isFull_4 {d : Nat} {l0 : Option Value} {v0 : Value} {m : jmM} {Q : Option Value → jmM → Prop} : AW d 114 4 [l0] [v0] m Q ↔ AW d 114 6 [l0] [.int 100, v0] m Q := A_bipush hB_X7_isFull dX7_isFull_4 rfl
theorem dX7_isFull_6 : decode cX7_isFull 6 = .ok (.if_icmp .lt 7, 3) := by decide +kernel
theorem tX7_isFull_6 {d : Nat} {l0 : Option Value} {x y : Int32} {m : jmM} {Q : Option Value → jmM → Prop} : AW d 114 6 [l0] [.int y, .int x] m Q ↔ if x < y then AW d 114 13 [l0] [] m Q else AW d 114 9 [l0] [] m Q := A_icmp_lt hB_X7_isFull dX7_isFull_6 (by decide)
theorem dX7_isFull_9 : decode cX7_isFull 9 = .ok (.iconst 1, 1) := by decide +kernel
theorem tX7_isFull_9 {d : Nat} {l0 : Option Value} {m : jmM} {Q : Option Value → jmM → Prop} : AW d 114 9 [l0] [] m Q ↔ AW d 114 10 [l0] [.int 1] m Q := A_iconst hB_X7_isFull dX7_isFull_9 (by decide)
theorem dX7_isFull_10 : decode cX7_isFull 10 = .ok (.goto 4, 3) := by decide +kernel
theorem tX7_isFull_10 {d : Nat} {l0 : Option Value} {v0 : Value} {m : jmM} {Q : Option Value → jmM → Prop} : AW d 114 10 [l0] [v0] m Q ↔ AW d 114 14 [l0] [v0] m Q := A_goto hB_X7_isFull dX7_isFull_10 (by decide)
theorem dX7_isFull_13 : decode cX7_isFull 13 = .ok (.iconst 0, 1) := by decide +kernel
theorem tX7_isFull_13 {d : Nat} {l0 : Option Value} {m : jmM} {Q : Option Value → jmM → Prop} : AW d 114 13 [l0] [] m Q ↔ AW d 114 14 [l0] [.int 0] m Q := A_iconst hB_X7_isFull dX7_isFull_13 (by decide)
theorem dX7_isFull_14 : decode cX7_isFull 14 = .ok (.ireturn, 1) := by decide +kernel
theorem tX7_isFull_14 {d : Nat} {l0 : Option Value} {x : Int32} {m : jmM} {Q : Option Value → jmM → Prop} : AW d 114 14 [l0] [.int x] m Q ↔ jBool x ∧ Q (some (.int x)) m := A_zreturn hB_X7_isFull dX7_isFull_14 hR_X7_isFull
theorem hB_X7_add : jB 115 = cX7_add := rfl
theorem hO_X7_add : jO 115 = 7 := rfl
theorem hR_X7_add : jRt 115 = none := rfl
theorem nX7_add (d : Nat) (x0 : Nat) (x1 : Int32) (x2 : Int32) (x3 : Int32) (x4 : Int32) (m : jmM) (Q : Option Value → jmM → Prop) : CC (d + 1) 115 [.ref x0, .int x1, .int x2, .int x3, .int x4] m Q ↔ AW d 115 0 [some (.ref x0), some (.int x1), some (.int x2), some (.int x3), some (.int x4)] [] m Q := CC_body (Nat.le_of_ble_eq_true rfl)
theorem dX7_add_0 : decode cX7_add 0 = .ok (.aload_n 0, 1) := by decide +kernel
theorem tX7_add_0 {d : Nat} {l1 l2 l3 l4 : Option Value} {x : Nat} {m : jmM} {Q : Option Value → jmM → Prop} : AW d 115 0 [some (.ref x), l1, l2, l3, l4] [] m Q ↔ AW d 115 1 [some (.ref x), l1, l2, l3, l4] [.ref x] m Q := A_aload_n hB_X7_add dX7_add_0 rfl
theorem dX7_add_1 : decode cX7_add 1 = .ok (.invokevirtual 38, 3) := by decide +kernel
theorem tX7_add_1 {d : Nat} {l0 l1 l2 l3 l4 : Option Value} {a : Nat} {m : jmM} {Q : Option Value → jmM → Prop} : AW d 115 1 [l0, l1, l2, l3, l4] [.ref a] m Q ↔ (mS m a).1 = 7 ∧ CC d 114 [.ref a] m (jK d 115 4 [l0, l1, l2, l3, l4] [] Q) := A_callV hB_X7_add dX7_add_1 hO_X7_add fS_7_38 ⟨Nat.le_of_ble_eq_true rfl, Nat.le_of_ble_eq_true rfl⟩ rfl rfl rfl
theorem dX7_add_4 : decode cX7_add 4 = .ok (.ifCond .ne 54, 3) := by decide +kernel
theorem tX7_add_4 {d : Nat} {l0 l1 l2 l3 l4 : Option Value} {x : Int32} {m : jmM} {Q : Option Value → jmM → Prop} : AW d 115 4 [l0, l1, l2, l3, l4] [.int x] m Q ↔ if x = 0 then AW d 115 7 [l0, l1, l2, l3, l4] [] m Q else AW d 115 58 [l0, l1, l2, l3, l4] [] m Q := A_if_ne hB_X7_add dX7_add_4 (by decide)
theorem dX7_add_7 : decode cX7_add 7 = .ok (.aload_n 0, 1) := by decide +kernel
theorem tX7_add_7 {d : Nat} {l1 l2 l3 l4 : Option Value} {x : Nat} {m : jmM} {Q : Option Value → jmM → Prop} : AW d 115 7 [some (.ref x), l1, l2, l3, l4] [] m Q ↔ AW d 115 8 [some (.ref x), l1, l2, l3, l4] [.ref x] m Q := A_aload_n hB_X7_add dX7_add_7 rfl
theorem dX7_add_8 : decode cX7_add 8 = .ok (.getfield 9, 3) := by decide +kernel
theorem tX7_add_8 {d : Nat} {l0 l1 l2 l3 l4 : Option Value} {a : Nat} {m : jmM} {Q : Option Value → jmM → Prop} : AW d 115 8 [l0, l1, l2, l3, l4] [.ref a] m Q ↔ (mS m a).1 = 7 ∧ AW d 115 11 [l0, l1, l2, l3, l4] [va_rf (mR m a 0)] m Q := A_getfield (f := fun m a => va_rf (mR m a 0)) hB_X7_add dX7_add_8 hO_X7_add fF_7_9 rfl
theorem dX7_add_11 : decode cX7_add 11 = .ok (.aload_n 0, 1) := by decide +kernel
theorem tX7_add_11 {d : Nat} {l1 l2 l3 l4 : Option Value} {v0 : Value} {x : Nat} {m : jmM} {Q : Option Value → jmM → Prop} : AW d 115 11 [some (.ref x), l1, l2, l3, l4] [v0] m Q ↔ AW d 115 12 [some (.ref x), l1, l2, l3, l4] [.ref x, v0] m Q := A_aload_n hB_X7_add dX7_add_11 rfl
theorem dX7_add_12 : decode cX7_add 12 = .ok (.getfield 24, 3) := by decide +kernel
theorem tX7_add_12 {d : Nat} {l0 l1 l2 l3 l4 : Option Value} {v1 : Value} {a : Nat} {m : jmM} {Q : Option Value → jmM → Prop} : AW d 115 12 [l0, l1, l2, l3, l4] [.ref a, v1] m Q ↔ (mS m a).1 = 7 ∧ AW d 115 15 [l0, l1, l2, l3, l4] [.int (mI m a 4), v1] m Q := A_getfield (f := fun m a => .int (mI m a 4)) hB_X7_add dX7_add_12 hO_X7_add fF_7_24 rfl
theorem dX7_add_15 : decode cX7_add 15 = .ok (.iload_n 1, 1) := by decide +kernel
theorem tX7_add_15 {d : Nat} {l0 l2 l3 l4 : Option Value} {v0 v1 : Value} {x : Int32} {m : jmM} {Q : Option Value → jmM → Prop} : AW d 115 15 [l0, some (.int x), l2, l3, l4] [v0, v1] m Q ↔ AW d 115 16 [l0, some (.int x), l2, l3, l4] [.int x, v0, v1] m Q := A_iload_n hB_X7_add dX7_add_15 rfl
theorem dX7_add_16 : decode cX7_add 16 = .ok (.iastore, 1) := by decide +kernel
theorem tX7_add_16 {d : Nat} {l0 l1 l2 l3 l4 : Option Value} {x i : Int32} {a : Nat} {m : jmM} {Q : Option Value → jmM → Prop} : AW d 115 16 [l0, l1, l2, l3, l4] [.int x, .int i, .ref a] m Q ↔ ((mS m a).1 = 20 ∧ jIx i (mS m a).2) ∧ AW d 115 17 [l0, l1, l2, l3, l4] [] (cI m a (jup (mI m a) (jx i) x)) Q := A_iastore hB_X7_add dX7_add_16
theorem dX7_add_17 : decode cX7_add 17 = .ok (.aload_n 0, 1) := by decide +kernel
theorem tX7_add_17 {d : Nat} {l1 l2 l3 l4 : Option Value} {x : Nat} {m : jmM} {Q : Option Value → jmM → Prop} : AW d 115 17 [some (.ref x), l1, l2, l3, l4] [] m Q ↔ AW d 115 18 [some (.ref x), l1, l2, l3, l4] [.ref x] m Q := A_aload_n hB_X7_add dX7_add_17 rfl
theorem dX7_add_18 : decode cX7_add 18 = .ok (.getfield 15, 3) := by decide +kernel
theorem tX7_add_18 {d : Nat} {l0 l1 l2 l3 l4 : Option Value} {a : Nat} {m : jmM} {Q : Option Value → jmM → Prop} : AW d 115 18 [l0, l1, l2, l3, l4] [.ref a] m Q ↔ (mS m a).1 = 7 ∧ AW d 115 21 [l0, l1, l2, l3, l4] [va_rf (mR m a 1)] m Q := A_getfield (f := fun m a => va_rf (mR m a 1)) hB_X7_add dX7_add_18 hO_X7_add fF_7_15 rfl
theorem dX7_add_21 : decode cX7_add 21 = .ok (.aload_n 0, 1) := by decide +kernel
theorem tX7_add_21 {d : Nat} {l1 l2 l3 l4 : Option Value} {v0 : Value} {x : Nat} {m : jmM} {Q : Option Value → jmM → Prop} : AW d 115 21 [some (.ref x), l1, l2, l3, l4] [v0] m Q ↔ AW d 115 22 [some (.ref x), l1, l2, l3, l4] [.ref x, v0] m Q := A_aload_n hB_X7_add dX7_add_21 rfl
theorem dX7_add_22 : decode cX7_add 22 = .ok (.getfield 24, 3) := by decide +kernel
theorem tX7_add_22 {d : Nat} {l0 l1 l2 l3 l4 : Option Value} {v1 : Value} {a : Nat} {m : jmM} {Q : Option Value → jmM → Prop} : AW d 115 22 [l0, l1, l2, l3, l4] [.ref a, v1] m Q ↔ (mS m a).1 = 7 ∧ AW d 115 25 [l0, l1, l2, l3, l4] [.int (mI m a 4), v1] m Q := A_getfield (f := fun m a => .int (mI m a 4)) hB_X7_add dX7_add_22 hO_X7_add fF_7_24 rfl
theorem dX7_add_25 : decode cX7_add 25 = .ok (.iload_n 2, 1) := by decide +kernel
theorem tX7_add_25 {d : Nat} {l0 l1 l3 l4 : Option Value} {v0 v1 : Value} {x : Int32} {m : jmM} {Q : Option Value → jmM → Prop} : AW d 115 25 [l0, l1, some (.int x), l3, l4] [v0, v1] m Q ↔ AW d 115 26 [l0, l1, some (.int x), l3, l4] [.int x, v0, v1] m Q := A_iload_n hB_X7_add dX7_add_25 rfl
theorem dX7_add_26 : decode cX7_add 26 = .ok (.iastore, 1) := by decide +kernel
theorem tX7_add_26 {d : Nat} {l0 l1 l2 l3 l4 : Option Value} {x i : Int32} {a : Nat} {m : jmM} {Q : Option Value → jmM → Prop} : AW d 115 26 [l0, l1, l2, l3, l4] [.int x, .int i, .ref a] m Q ↔ ((mS m a).1 = 20 ∧ jIx i (mS m a).2) ∧ AW d 115 27 [l0, l1, l2, l3, l4] [] (cI m a (jup (mI m a) (jx i) x)) Q := A_iastore hB_X7_add dX7_add_26
theorem dX7_add_27 : decode cX7_add 27 = .ok (.aload_n 0, 1) := by decide +kernel
theorem tX7_add_27 {d : Nat} {l1 l2 l3 l4 : Option Value} {x : Nat} {m : jmM} {Q : Option Value → jmM → Prop} : AW d 115 27 [some (.ref x), l1, l2, l3, l4] [] m Q ↔ AW d 115 28 [some (.ref x), l1, l2, l3, l4] [.ref x] m Q := A_aload_n hB_X7_add dX7_add_27 rfl
theorem dX7_add_28 : decode cX7_add 28 = .ok (.getfield 18, 3) := by decide +kernel
theorem tX7_add_28 {d : Nat} {l0 l1 l2 l3 l4 : Option Value} {a : Nat} {m : jmM} {Q : Option Value → jmM → Prop} : AW d 115 28 [l0, l1, l2, l3, l4] [.ref a] m Q ↔ (mS m a).1 = 7 ∧ AW d 115 31 [l0, l1, l2, l3, l4] [va_rf (mR m a 2)] m Q := A_getfield (f := fun m a => va_rf (mR m a 2)) hB_X7_add dX7_add_28 hO_X7_add fF_7_18 rfl
theorem dX7_add_31 : decode cX7_add 31 = .ok (.aload_n 0, 1) := by decide +kernel
theorem tX7_add_31 {d : Nat} {l1 l2 l3 l4 : Option Value} {v0 : Value} {x : Nat} {m : jmM} {Q : Option Value → jmM → Prop} : AW d 115 31 [some (.ref x), l1, l2, l3, l4] [v0] m Q ↔ AW d 115 32 [some (.ref x), l1, l2, l3, l4] [.ref x, v0] m Q := A_aload_n hB_X7_add dX7_add_31 rfl
theorem dX7_add_32 : decode cX7_add 32 = .ok (.getfield 24, 3) := by decide +kernel
theorem tX7_add_32 {d : Nat} {l0 l1 l2 l3 l4 : Option Value} {v1 : Value} {a : Nat} {m : jmM} {Q : Option Value → jmM → Prop} : AW d 115 32 [l0, l1, l2, l3, l4] [.ref a, v1] m Q ↔ (mS m a).1 = 7 ∧ AW d 115 35 [l0, l1, l2, l3, l4] [.int (mI m a 4), v1] m Q := A_getfield (f := fun m a => .int (mI m a 4)) hB_X7_add dX7_add_32 hO_X7_add fF_7_24 rfl
theorem dX7_add_35 : decode cX7_add 35 = .ok (.iload_n 3, 1) := by decide +kernel
theorem tX7_add_35 {d : Nat} {l0 l1 l2 l4 : Option Value} {v0 v1 : Value} {x : Int32} {m : jmM} {Q : Option Value → jmM → Prop} : AW d 115 35 [l0, l1, l2, some (.int x), l4] [v0, v1] m Q ↔ AW d 115 36 [l0, l1, l2, some (.int x), l4] [.int x, v0, v1] m Q := A_iload_n hB_X7_add dX7_add_35 rfl
theorem dX7_add_36 : decode cX7_add 36 = .ok (.iastore, 1) := by decide +kernel
theorem tX7_add_36 {d : Nat} {l0 l1 l2 l3 l4 : Option Value} {x i : Int32} {a : Nat} {m : jmM} {Q : Option Value → jmM → Prop} : AW d 115 36 [l0, l1, l2, l3, l4] [.int x, .int i, .ref a] m Q ↔ ((mS m a).1 = 20 ∧ jIx i (mS m a).2) ∧ AW d 115 37 [l0, l1, l2, l3, l4] [] (cI m a (jup (mI m a) (jx i) x)) Q := A_iastore hB_X7_add dX7_add_36
theorem dX7_add_37 : decode cX7_add 37 = .ok (.aload_n 0, 1) := by decide +kernel
theorem tX7_add_37 {d : Nat} {l1 l2 l3 l4 : Option Value} {x : Nat} {m : jmM} {Q : Option Value → jmM → Prop} : AW d 115 37 [some (.ref x), l1, l2, l3, l4] [] m Q ↔ AW d 115 38 [some (.ref x), l1, l2, l3, l4] [.ref x] m Q := A_aload_n hB_X7_add dX7_add_37 rfl
theorem dX7_add_38 : decode cX7_add 38 = .ok (.getfield 21, 3) := by decide +kernel
theorem tX7_add_38 {d : Nat} {l0 l1 l2 l3 l4 : Option Value} {a : Nat} {m : jmM} {Q : Option Value → jmM → Prop} : AW d 115 38 [l0, l1, l2, l3, l4] [.ref a] m Q ↔ (mS m a).1 = 7 ∧ AW d 115 41 [l0, l1, l2, l3, l4] [va_rf (mR m a 3)] m Q := A_getfield (f := fun m a => va_rf (mR m a 3)) hB_X7_add dX7_add_38 hO_X7_add fF_7_21 rfl
theorem dX7_add_41 : decode cX7_add 41 = .ok (.aload_n 0, 1) := by decide +kernel
theorem tX7_add_41 {d : Nat} {l1 l2 l3 l4 : Option Value} {v0 : Value} {x : Nat} {m : jmM} {Q : Option Value → jmM → Prop} : AW d 115 41 [some (.ref x), l1, l2, l3, l4] [v0] m Q ↔ AW d 115 42 [some (.ref x), l1, l2, l3, l4] [.ref x, v0] m Q := A_aload_n hB_X7_add dX7_add_41 rfl
theorem dX7_add_42 : decode cX7_add 42 = .ok (.getfield 24, 3) := by decide +kernel
theorem tX7_add_42 {d : Nat} {l0 l1 l2 l3 l4 : Option Value} {v1 : Value} {a : Nat} {m : jmM} {Q : Option Value → jmM → Prop} : AW d 115 42 [l0, l1, l2, l3, l4] [.ref a, v1] m Q ↔ (mS m a).1 = 7 ∧ AW d 115 45 [l0, l1, l2, l3, l4] [.int (mI m a 4), v1] m Q := A_getfield (f := fun m a => .int (mI m a 4)) hB_X7_add dX7_add_42 hO_X7_add fF_7_24 rfl
theorem dX7_add_45 : decode cX7_add 45 = .ok (.iload 4, 2) := by decide +kernel
theorem tX7_add_45 {d : Nat} {l0 l1 l2 l3 : Option Value} {v0 v1 : Value} {x : Int32} {m : jmM} {Q : Option Value → jmM → Prop} : AW d 115 45 [l0, l1, l2, l3, some (.int x)] [v0, v1] m Q ↔ AW d 115 47 [l0, l1, l2, l3, some (.int x)] [.int x, v0, v1] m Q := A_iload hB_X7_add dX7_add_45 rfl
theorem dX7_add_47 : decode cX7_add 47 = .ok (.iastore, 1) := by decide +kernel
theorem tX7_add_47 {d : Nat} {l0 l1 l2 l3 l4 : Option Value} {x i : Int32} {a : Nat} {m : jmM} {Q : Option Value → jmM → Prop} : AW d 115 47 [l0, l1, l2, l3, l4] [.int x, .int i, .ref a] m Q ↔ ((mS m a).1 = 20 ∧ jIx i (mS m a).2) ∧ AW d 115 48 [l0, l1, l2, l3, l4] [] (cI m a (jup (mI m a) (jx i) x)) Q := A_iastore hB_X7_add dX7_add_47
theorem dX7_add_48 : decode cX7_add 48 = .ok (.aload_n 0, 1) := by decide +kernel
theorem tX7_add_48 {d : Nat} {l1 l2 l3 l4 : Option Value} {x : Nat} {m : jmM} {Q : Option Value → jmM → Prop} : AW d 115 48 [some (.ref x), l1, l2, l3, l4] [] m Q ↔ AW d 115 49 [some (.ref x), l1, l2, l3, l4] [.ref x] m Q := A_aload_n hB_X7_add dX7_add_48 rfl
theorem dX7_add_49 : decode cX7_add 49 = .ok (.dup, 1) := by decide +kernel
theorem tX7_add_49 {d : Nat} {l0 l1 l2 l3 l4 : Option Value} {x : Nat} {m : jmM} {Q : Option Value → jmM → Prop} : AW d 115 49 [l0, l1, l2, l3, l4] [.ref x] m Q ↔ AW d 115 50 [l0, l1, l2, l3, l4] [.ref x, .ref x] m Q := A_dup_a hB_X7_add dX7_add_49
theorem dX7_add_50 : decode cX7_add 50 = .ok (.getfield 24, 3) := by decide +kernel
theorem tX7_add_50 {d : Nat} {l0 l1 l2 l3 l4 : Option Value} {v1 : Value} {a : Nat} {m : jmM} {Q : Option Value → jmM → Prop} : AW d 115 50 [l0, l1, l2, l3, l4] [.ref a, v1] m Q ↔ (mS m a).1 = 7 ∧ AW d 115 53 [l0, l1, l2, l3, l4] [.int (mI m a 4), v1] m Q := A_getfield (f := fun m a => .int (mI m a 4)) hB_X7_add dX7_add_50 hO_X7_add fF_7_24 rfl
theorem dX7_add_53 : decode cX7_add 53 = .ok (.iconst 1, 1) := by decide +kernel
theorem tX7_add_53 {d : Nat} {l0 l1 l2 l3 l4 : Option Value} {v0 v1 : Value} {m : jmM} {Q : Option Value → jmM → Prop} : AW d 115 53 [l0, l1, l2, l3, l4] [v0, v1] m Q ↔ AW d 115 54 [l0, l1, l2, l3, l4] [.int 1, v0, v1] m Q := A_iconst hB_X7_add dX7_add_53 (by decide)
theorem dX7_add_54 : decode cX7_add 54 = .ok (.iadd, 1) := by decide +kernel
theorem tX7_add_54 {d : Nat} {l0 l1 l2 l3 l4 : Option Value} {v2 : Value} {x y : Int32} {m : jmM} {Q : Option Value → jmM → Prop} : AW d 115 54 [l0, l1, l2, l3, l4] [.int y, .int x, v2] m Q ↔ AW d 115 55 [l0, l1, l2, l3, l4] [.int (x + y), v2] m Q := A_iadd hB_X7_add dX7_add_54
theorem dX7_add_55 : decode cX7_add 55 = .ok (.putfield 24, 3) := by decide +kernel
theorem tX7_add_55 {d : Nat} {l0 l1 l2 l3 l4 : Option Value} {x : Int32} {a : Nat} {m : jmM} {Q : Option Value → jmM → Prop} : AW d 115 55 [l0, l1, l2, l3, l4] [.int x, .ref a] m Q ↔ (mS m a).1 = 7 ∧ AW d 115 58 [l0, l1, l2, l3, l4] [] (cI m a (jup (mI m a) 4 x)) Q := A_putI hB_X7_add dX7_add_55 hO_X7_add fF_7_24 rfl (fun h => Bool.noConfusion h)
theorem dX7_add_58 : decode cX7_add 58 = .ok (.return_, 1) := by decide +kernel
theorem tX7_add_58 {d : Nat} {l0 l1 l2 l3 l4 : Option Value} {m : jmM} {Q : Option Value → jmM → Prop} : AW d 115 58 [l0, l1, l2, l3, l4] [] m Q ↔ Q none m := A_return hB_X7_add dX7_add_58 hR_X7_add
theorem hB_X7_gather : jB 116 = cX7_gather := rfl
theorem hO_X7_gather : jO 116 = 7 := rfl
theorem hR_X7_gather : jRt 116 = none := rfl
theorem nX7_gather (d : Nat) (x0 : Nat) (x1 : Int32) (x2 : Int32) (m : jmM) (Q : Option Value → jmM → Prop) : CC (d + 1) 116 [.ref x0, .int x1, .int x2] m Q ↔ AW d 116 0 [some (.ref x0), some (.int x1), some (.int x2), none, none] [] m Q := CC_body (Nat.le_of_ble_eq_true rfl)
theorem dX7_gather_0 : decode cX7_gather 0 = .ok (.aload_n 0, 1) := by decide +kernel
theorem tX7_gather_0 {d : Nat} {l1 l2 l3 l4 : Option Value} {x : Nat} {m : jmM} {Q : Option Value → jmM → Prop} : AW d 116 0 [some (.ref x), l1, l2, l3, l4] [] m Q ↔ AW d 116 1 [some (.ref x), l1, l2, l3, l4] [.ref x] m Q := A_aload_n hB_X7_gather dX7_gather_0 rfl
theorem dX7_gather_1 : decode cX7_gather 1 = .ok (.iload_n 2, 1) := by decide +kernel
theorem tX7_gather_1 {d : Nat} {l0 l1 l3 l4 : Option Value} {v0 : Value} {x : Int32} {m : jmM} {Q : Option Value → jmM → Prop} : AW d 116 1 [l0, l1, some (.int x), l3, l4] [v0] m Q ↔ AW d 116 2 [l0, l1, some (.int x), l3, l4] [.int x, v0] m Q := A_iload_n hB_X7_gather dX7_gather_1 rfl
theorem dX7_gather_2 : decode cX7_gather 2 = .ok (.sipush 600, 3) := by decide +kernel
theorem tX7_gather_2 {d : Nat} {l0 l1 l2 l3 l4 : Option Value} {v0 v1 : Value} {m : jmM} {Q : Option Value → jmM → Prop} : AW d 116 2 [l0, l1, l2, l3, l4] [v0, v1] m Q ↔ AW d 116 5 [l0, l1, l2, l3, l4] [.int 600, v0, v1] m Q := A_sipush hB_X7_gather dX7_gather_2 rfl
theorem dX7_gather_5 : decode cX7_gather 5 = .ok (.invokestatic 42, 3) := by decide +kernel
theorem tX7_gather_5 {d : Nat} {l0 l1 l2 l3 l4 : Option Value} {v2 : Value} {x y : Int32} {m : jmM} {Q : Option Value → jmM → Prop} : AW d 116 5 [l0, l1, l2, l3, l4] [.int y, .int x, v2] m Q ↔ AW d 116 8 [l0, l1, l2, l3, l4] [.int (if y < x then y else x), v2] m Q := A_min hB_X7_gather dX7_gather_5 hO_X7_gather fS_7_42 (Nat.le_of_ble_eq_true rfl)
theorem dX7_gather_8 : decode cX7_gather 8 = .ok (.putfield 35, 3) := by decide +kernel
theorem tX7_gather_8 {d : Nat} {l0 l1 l2 l3 l4 : Option Value} {x : Int32} {a : Nat} {m : jmM} {Q : Option Value → jmM → Prop} : AW d 116 8 [l0, l1, l2, l3, l4] [.int x, .ref a] m Q ↔ (mS m a).1 = 7 ∧ AW d 116 11 [l0, l1, l2, l3, l4] [] (cI m a (jup (mI m a) 7 x)) Q := A_putI hB_X7_gather dX7_gather_8 hO_X7_gather fF_7_35 rfl (fun h => Bool.noConfusion h)
theorem dX7_gather_11 : decode cX7_gather 11 = .ok (.iconst 0, 1) := by decide +kernel
theorem tX7_gather_11 {d : Nat} {l0 l1 l2 l3 l4 : Option Value} {m : jmM} {Q : Option Value → jmM → Prop} : AW d 116 11 [l0, l1, l2, l3, l4] [] m Q ↔ AW d 116 12 [l0, l1, l2, l3, l4] [.int 0] m Q := A_iconst hB_X7_gather dX7_gather_11 (by decide)
theorem dX7_gather_12 : decode cX7_gather 12 = .ok (.istore_n 3, 1) := by decide +kernel
theorem tX7_gather_12 {d : Nat} {l0 l1 l2 l3 l4 : Option Value} {x : Int32} {m : jmM} {Q : Option Value → jmM → Prop} : AW d 116 12 [l0, l1, l2, l3, l4] [.int x] m Q ↔ AW d 116 13 [l0, l1, jc1 l2, some (.int x), l4] [] m Q := A_istore_n hB_X7_gather dX7_gather_12 (Nat.le_of_ble_eq_true rfl) rfl
theorem dX7_gather_13 : decode cX7_gather 13 = .ok (.iload_n 3, 1) := by decide +kernel
theorem tX7_gather_13 {d : Nat} {l0 l1 l2 l4 : Option Value} {x : Int32} {m : jmM} {Q : Option Value → jmM → Prop} : AW d 116 13 [l0, l1, l2, some (.int x), l4] [] m Q ↔ AW d 116 14 [l0, l1, l2, some (.int x), l4] [.int x] m Q := A_iload_n hB_X7_gather dX7_gather_13 rfl
theorem dX7_gather_14 : decode cX7_gather 14 = .ok (.aload_n 0, 1) := by decide +kernel
theorem tX7_gather_14 {d : Nat} {l1 l2 l3 l4 : Option Value} {v0 : Value} {x : Nat} {m : jmM} {Q : Option Value → jmM → Prop} : AW d 116 14 [some (.ref x), l1, l2, l3, l4] [v0] m Q ↔ AW d 116 15 [some (.ref x), l1, l2, l3, l4] [.ref x, v0] m Q := A_aload_n hB_X7_gather dX7_gather_14 rfl
theorem dX7_gather_15 : decode cX7_gather 15 = .ok (.getfield 35, 3) := by decide +kernel
theorem tX7_gather_15 {d : Nat} {l0 l1 l2 l3 l4 : Option Value} {v1 : Value} {a : Nat} {m : jmM} {Q : Option Value → jmM → Prop} : AW d 116 15 [l0, l1, l2, l3, l4] [.ref a, v1] m Q ↔ (mS m a).1 = 7 ∧ AW d 116 18 [l0, l1, l2, l3, l4] [.int (mI m a 7), v1] m Q := A_getfield (f := fun m a => .int (mI m a 7)) hB_X7_gather dX7_gather_15 hO_X7_gather fF_7_35 rfl
theorem dX7_gather_18 : decode cX7_gather 18 = .ok (.if_icmp .ge 27, 3) := by decide +kernel
theorem tX7_gather_18 {d : Nat} {l0 l1 l2 l3 l4 : Option Value} {x y : Int32} {m : jmM} {Q : Option Value → jmM → Prop} : AW d 116 18 [l0, l1, l2, l3, l4] [.int y, .int x] m Q ↔ if y ≤ x then AW d 116 45 [l0, l1, l2, l3, l4] [] m Q else AW d 116 21 [l0, l1, l2, l3, l4] [] m Q := A_icmp_ge hB_X7_gather dX7_gather_18 (by decide)
theorem dX7_gather_21 : decode cX7_gather 21 = .ok (.aload_n 0, 1) := by decide +kernel
theorem tX7_gather_21 {d : Nat} {l1 l2 l3 l4 : Option Value} {x : Nat} {m : jmM} {Q : Option Value → jmM → Prop} : AW d 116 21 [some (.ref x), l1, l2, l3, l4] [] m Q ↔ AW d 116 22 [some (.ref x), l1, l2, l3, l4] [.ref x] m Q := A_aload_n hB_X7_gather dX7_gather_21 rfl
theorem dX7_gather_22 : decode cX7_gather 22 = .ok (.getfield 28, 3) := by decide +kernel
theorem tX7_gather_22 {d : Nat} {l0 l1 l2 l3 l4 : Option Value} {a : Nat} {m : jmM} {Q : Option Value → jmM → Prop} : AW d 116 22 [l0, l1, l2, l3, l4] [.ref a] m Q ↔ (mS m a).1 = 7 ∧ AW d 116 25 [l0, l1, l2, l3, l4] [va_rf (mR m a 5)] m Q := A_getfield (f := fun m a => va_rf (mR m a 5)) hB_X7_gather dX7_gather_22 hO_X7_gather fF_7_28 rfl
theorem dX7_gather_25 : decode cX7_gather 25 = .ok (.iload_n 3, 1) := by decide +kernel
theorem tX7_gather_25 {d : Nat} {l0 l1 l2 l4 : Option Value} {v0 : Value} {x : Int32} {m : jmM} {Q : Option Value → jmM → Prop} : AW d 116 25 [l0, l1, l2, some (.int x), l4] [v0] m Q ↔ AW d 116 26 [l0, l1, l2, some (.int x), l4] [.int x, v0] m Q := A_iload_n hB_X7_gather dX7_gather_25 rfl
theorem dX7_gather_26 : decode cX7_gather 26 = .ok (.ldc2_w 48, 3) := by decide +kernel
theorem tX7_gather_26 {d : Nat} {l0 l1 l2 l3 l4 : Option Value} {v0 v1 : Value} {m : jmM} {Q : Option Value → jmM → Prop} : AW d 116 26 [l0, l1, l2, l3, l4] [v0, v1] m Q ↔ AW d 116 29 [l0, l1, l2, l3, l4] [.long (-1000000000000000000), v0, v1] m Q := A_ldc2_w hB_X7_gather dX7_gather_26 hO_X7_gather fL2_7_48
theorem dX7_gather_29 : decode cX7_gather 29 = .ok (.lastore, 1) := by decide +kernel
theorem tX7_gather_29 {d : Nat} {l0 l1 l2 l3 l4 : Option Value} {x : Int64} {i : Int32} {a : Nat} {m : jmM} {Q : Option Value → jmM → Prop} : AW d 116 29 [l0, l1, l2, l3, l4] [.long x, .int i, .ref a] m Q ↔ ((mS m a).1 = 21 ∧ jIx i (mS m a).2) ∧ AW d 116 30 [l0, l1, l2, l3, l4] [] (cL m a (jup (mL m a) (jx i) x)) Q := A_lastore hB_X7_gather dX7_gather_29
theorem dX7_gather_30 : decode cX7_gather 30 = .ok (.aload_n 0, 1) := by decide +kernel
theorem tX7_gather_30 {d : Nat} {l1 l2 l3 l4 : Option Value} {x : Nat} {m : jmM} {Q : Option Value → jmM → Prop} : AW d 116 30 [some (.ref x), l1, l2, l3, l4] [] m Q ↔ AW d 116 31 [some (.ref x), l1, l2, l3, l4] [.ref x] m Q := A_aload_n hB_X7_gather dX7_gather_30 rfl
theorem dX7_gather_31 : decode cX7_gather 31 = .ok (.getfield 32, 3) := by decide +kernel
theorem tX7_gather_31 {d : Nat} {l0 l1 l2 l3 l4 : Option Value} {a : Nat} {m : jmM} {Q : Option Value → jmM → Prop} : AW d 116 31 [l0, l1, l2, l3, l4] [.ref a] m Q ↔ (mS m a).1 = 7 ∧ AW d 116 34 [l0, l1, l2, l3, l4] [va_rf (mR m a 6)] m Q := A_getfield (f := fun m a => va_rf (mR m a 6)) hB_X7_gather dX7_gather_31 hO_X7_gather fF_7_32 rfl
theorem dX7_gather_34 : decode cX7_gather 34 = .ok (.iload_n 3, 1) := by decide +kernel
theorem tX7_gather_34 {d : Nat} {l0 l1 l2 l4 : Option Value} {v0 : Value} {x : Int32} {m : jmM} {Q : Option Value → jmM → Prop} : AW d 116 34 [l0, l1, l2, some (.int x), l4] [v0] m Q ↔ AW d 116 35 [l0, l1, l2, some (.int x), l4] [.int x, v0] m Q := A_iload_n hB_X7_gather dX7_gather_34 rfl
theorem dX7_gather_35 : decode cX7_gather 35 = .ok (.ldc2_w 50, 3) := by decide +kernel
theorem tX7_gather_35 {d : Nat} {l0 l1 l2 l3 l4 : Option Value} {v0 v1 : Value} {m : jmM} {Q : Option Value → jmM → Prop} : AW d 116 35 [l0, l1, l2, l3, l4] [v0, v1] m Q ↔ AW d 116 38 [l0, l1, l2, l3, l4] [.long 1000000000000000000, v0, v1] m Q := A_ldc2_w hB_X7_gather dX7_gather_35 hO_X7_gather fL2_7_50
theorem dX7_gather_38 : decode cX7_gather 38 = .ok (.lastore, 1) := by decide +kernel
theorem tX7_gather_38 {d : Nat} {l0 l1 l2 l3 l4 : Option Value} {x : Int64} {i : Int32} {a : Nat} {m : jmM} {Q : Option Value → jmM → Prop} : AW d 116 38 [l0, l1, l2, l3, l4] [.long x, .int i, .ref a] m Q ↔ ((mS m a).1 = 21 ∧ jIx i (mS m a).2) ∧ AW d 116 39 [l0, l1, l2, l3, l4] [] (cL m a (jup (mL m a) (jx i) x)) Q := A_lastore hB_X7_gather dX7_gather_38
theorem dX7_gather_39 : decode cX7_gather 39 = .ok (.iinc 3 1, 3) := by decide +kernel
theorem tX7_gather_39 {d : Nat} {l0 l1 l2 l4 : Option Value} {x : Int32} {m : jmM} {Q : Option Value → jmM → Prop} : AW d 116 39 [l0, l1, l2, some (.int x), l4] [] m Q ↔ AW d 116 42 [l0, l1, jc1 l2, some (.int (x + 1)), l4] [] m Q := A_iinc hB_X7_gather dX7_gather_39 rfl (Nat.le_of_ble_eq_true rfl) (v := 1) (by decide) rfl
theorem dX7_gather_42 : decode cX7_gather 42 = .ok (.goto (-29), 3) := by decide +kernel
theorem tX7_gather_42 {d : Nat} {l0 l1 l2 l3 l4 : Option Value} {m : jmM} {Q : Option Value → jmM → Prop} : AW d 116 42 [l0, l1, l2, l3, l4] [] m Q ↔ AW d 116 13 [l0, l1, l2, l3, l4] [] m Q := A_goto hB_X7_gather dX7_gather_42 (by decide)
theorem dX7_gather_45 : decode cX7_gather 45 = .ok (.iconst 0, 1) := by decide +kernel
theorem tX7_gather_45 {d : Nat} {l0 l1 l2 l3 l4 : Option Value} {m : jmM} {Q : Option Value → jmM → Prop} : AW d 116 45 [l0, l1, l2, l3, l4] [] m Q ↔ AW d 116 46 [l0, l1, l2, l3, l4] [.int 0] m Q := A_iconst hB_X7_gather dX7_gather_45 (by decide)
theorem dX7_gather_46 : decode cX7_gather 46 = .ok (.istore_n 3, 1) := by decide +kernel
theorem tX7_gather_46 {d : Nat} {l0 l1 l2 l3 l4 : Option Value} {x : Int32} {m : jmM} {Q : Option Value → jmM → Prop} : AW d 116 46 [l0, l1, l2, l3, l4] [.int x] m Q ↔ AW d 116 47 [l0, l1, jc1 l2, some (.int x), l4] [] m Q := A_istore_n hB_X7_gather dX7_gather_46 (Nat.le_of_ble_eq_true rfl) rfl
theorem dX7_gather_47 : decode cX7_gather 47 = .ok (.iload_n 3, 1) := by decide +kernel
theorem tX7_gather_47 {d : Nat} {l0 l1 l2 l4 : Option Value} {x : Int32} {m : jmM} {Q : Option Value → jmM → Prop} : AW d 116 47 [l0, l1, l2, some (.int x), l4] [] m Q ↔ AW d 116 48 [l0, l1, l2, some (.int x), l4] [.int x] m Q := A_iload_n hB_X7_gather dX7_gather_47 rfl
theorem dX7_gather_48 : decode cX7_gather 48 = .ok (.aload_n 0, 1) := by decide +kernel
theorem tX7_gather_48 {d : Nat} {l1 l2 l3 l4 : Option Value} {v0 : Value} {x : Nat} {m : jmM} {Q : Option Value → jmM → Prop} : AW d 116 48 [some (.ref x), l1, l2, l3, l4] [v0] m Q ↔ AW d 116 49 [some (.ref x), l1, l2, l3, l4] [.ref x, v0] m Q := A_aload_n hB_X7_gather dX7_gather_48 rfl
theorem dX7_gather_49 : decode cX7_gather 49 = .ok (.getfield 24, 3) := by decide +kernel
theorem tX7_gather_49 {d : Nat} {l0 l1 l2 l3 l4 : Option Value} {v1 : Value} {a : Nat} {m : jmM} {Q : Option Value → jmM → Prop} : AW d 116 49 [l0, l1, l2, l3, l4] [.ref a, v1] m Q ↔ (mS m a).1 = 7 ∧ AW d 116 52 [l0, l1, l2, l3, l4] [.int (mI m a 4), v1] m Q := A_getfield (f := fun m a => .int (mI m a 4)) hB_X7_gather dX7_gather_49 hO_X7_gather fF_7_24 rfl
theorem dX7_gather_52 : decode cX7_gather 52 = .ok (.if_icmp .ge 111, 3) := by decide +kernel
theorem tX7_gather_52 {d : Nat} {l0 l1 l2 l3 l4 : Option Value} {x y : Int32} {m : jmM} {Q : Option Value → jmM → Prop} : AW d 116 52 [l0, l1, l2, l3, l4] [.int y, .int x] m Q ↔ if y ≤ x then AW d 116 163 [l0, l1, l2, l3, l4] [] m Q else AW d 116 55 [l0, l1, l2, l3, l4] [] m Q := A_icmp_ge hB_X7_gather dX7_gather_52 (by decide)
theorem dX7_gather_55 : decode cX7_gather 55 = .ok (.iload_n 3, 1) := by decide +kernel
theorem tX7_gather_55 {d : Nat} {l0 l1 l2 l4 : Option Value} {x : Int32} {m : jmM} {Q : Option Value → jmM → Prop} : AW d 116 55 [l0, l1, l2, some (.int x), l4] [] m Q ↔ AW d 116 56 [l0, l1, l2, some (.int x), l4] [.int x] m Q := A_iload_n hB_X7_gather dX7_gather_55 rfl
theorem dX7_gather_56 : decode cX7_gather 56 = .ok (.bipush 100, 2) := by decide +kernel
theorem tX7_gather_56 {d : Nat} {l0 l1 l2 l3 l4 : Option Value} {v0 : Value} {m : jmM} {Q : Option Value → jmM → Prop} : AW d 116 56 [l0, l1, l2, l3, l4] [v0] m Q ↔ AW d 116 58 [l0, l1, l2, l3, l4] [.int 100, v0] m Q := A_bipush hB_X7_gather dX7_gather_56 rfl
theorem dX7_gather_58 : decode cX7_gather 58 = .ok (.if_icmp .ge 105, 3) := by decide +kernel
theorem tX7_gather_58 {d : Nat} {l0 l1 l2 l3 l4 : Option Value} {x y : Int32} {m : jmM} {Q : Option Value → jmM → Prop} : AW d 116 58 [l0, l1, l2, l3, l4] [.int y, .int x] m Q ↔ if y ≤ x then AW d 116 163 [l0, l1, l2, l3, l4] [] m Q else AW d 116 61 [l0, l1, l2, l3, l4] [] m Q := A_icmp_ge hB_X7_gather dX7_gather_58 (by decide)
theorem dX7_gather_61 : decode cX7_gather 61 = .ok (.aload_n 0, 1) := by decide +kernel
theorem tX7_gather_61 {d : Nat} {l1 l2 l3 l4 : Option Value} {x : Nat} {m : jmM} {Q : Option Value → jmM → Prop} : AW d 116 61 [some (.ref x), l1, l2, l3, l4] [] m Q ↔ AW d 116 62 [some (.ref x), l1, l2, l3, l4] [.ref x] m Q := A_aload_n hB_X7_gather dX7_gather_61 rfl
theorem dX7_gather_62 : decode cX7_gather 62 = .ok (.getfield 9, 3) := by decide +kernel
theorem tX7_gather_62 {d : Nat} {l0 l1 l2 l3 l4 : Option Value} {a : Nat} {m : jmM} {Q : Option Value → jmM → Prop} : AW d 116 62 [l0, l1, l2, l3, l4] [.ref a] m Q ↔ (mS m a).1 = 7 ∧ AW d 116 65 [l0, l1, l2, l3, l4] [va_rf (mR m a 0)] m Q := A_getfield (f := fun m a => va_rf (mR m a 0)) hB_X7_gather dX7_gather_62 hO_X7_gather fF_7_9 rfl
theorem dX7_gather_65 : decode cX7_gather 65 = .ok (.iload_n 3, 1) := by decide +kernel
theorem tX7_gather_65 {d : Nat} {l0 l1 l2 l4 : Option Value} {v0 : Value} {x : Int32} {m : jmM} {Q : Option Value → jmM → Prop} : AW d 116 65 [l0, l1, l2, some (.int x), l4] [v0] m Q ↔ AW d 116 66 [l0, l1, l2, some (.int x), l4] [.int x, v0] m Q := A_iload_n hB_X7_gather dX7_gather_65 rfl
theorem dX7_gather_66 : decode cX7_gather 66 = .ok (.iaload, 1) := by decide +kernel
theorem tX7_gather_66 {d : Nat} {l0 l1 l2 l3 l4 : Option Value} {i : Int32} {a : Nat} {m : jmM} {Q : Option Value → jmM → Prop} : AW d 116 66 [l0, l1, l2, l3, l4] [.int i, .ref a] m Q ↔ (((mS m a).1 = 20 ∨ a = jScr) ∧ jIx i (mS m a).2) ∧ AW d 116 67 [l0, l1, l2, l3, l4] [.int (mI m a (jx i))] m Q := A_iaload hB_X7_gather dX7_gather_66
theorem dX7_gather_67 : decode cX7_gather 67 = .ok (.istore 4, 2) := by decide +kernel
theorem tX7_gather_67 {d : Nat} {l0 l1 l2 l3 l4 : Option Value} {x : Int32} {m : jmM} {Q : Option Value → jmM → Prop} : AW d 116 67 [l0, l1, l2, l3, l4] [.int x] m Q ↔ AW d 116 69 [l0, l1, l2, jc1 l3, some (.int x)] [] m Q := A_istore hB_X7_gather dX7_gather_67 (Nat.le_of_ble_eq_true rfl) rfl
theorem dX7_gather_69 : decode cX7_gather 69 = .ok (.aload_n 0, 1) := by decide +kernel
theorem tX7_gather_69 {d : Nat} {l1 l2 l3 l4 : Option Value} {x : Nat} {m : jmM} {Q : Option Value → jmM → Prop} : AW d 116 69 [some (.ref x), l1, l2, l3, l4] [] m Q ↔ AW d 116 70 [some (.ref x), l1, l2, l3, l4] [.ref x] m Q := A_aload_n hB_X7_gather dX7_gather_69 rfl
theorem dX7_gather_70 : decode cX7_gather 70 = .ok (.getfield 15, 3) := by decide +kernel
theorem tX7_gather_70 {d : Nat} {l0 l1 l2 l3 l4 : Option Value} {a : Nat} {m : jmM} {Q : Option Value → jmM → Prop} : AW d 116 70 [l0, l1, l2, l3, l4] [.ref a] m Q ↔ (mS m a).1 = 7 ∧ AW d 116 73 [l0, l1, l2, l3, l4] [va_rf (mR m a 1)] m Q := A_getfield (f := fun m a => va_rf (mR m a 1)) hB_X7_gather dX7_gather_70 hO_X7_gather fF_7_15 rfl
theorem dX7_gather_73 : decode cX7_gather 73 = .ok (.iload_n 3, 1) := by decide +kernel
theorem tX7_gather_73 {d : Nat} {l0 l1 l2 l4 : Option Value} {v0 : Value} {x : Int32} {m : jmM} {Q : Option Value → jmM → Prop} : AW d 116 73 [l0, l1, l2, some (.int x), l4] [v0] m Q ↔ AW d 116 74 [l0, l1, l2, some (.int x), l4] [.int x, v0] m Q := A_iload_n hB_X7_gather dX7_gather_73 rfl
theorem dX7_gather_74 : decode cX7_gather 74 = .ok (.iaload, 1) := by decide +kernel
theorem tX7_gather_74 {d : Nat} {l0 l1 l2 l3 l4 : Option Value} {i : Int32} {a : Nat} {m : jmM} {Q : Option Value → jmM → Prop} : AW d 116 74 [l0, l1, l2, l3, l4] [.int i, .ref a] m Q ↔ (((mS m a).1 = 20 ∨ a = jScr) ∧ jIx i (mS m a).2) ∧ AW d 116 75 [l0, l1, l2, l3, l4] [.int (mI m a (jx i))] m Q := A_iaload hB_X7_gather dX7_gather_74
theorem dX7_gather_75 : decode cX7_gather 75 = .ok (.iload_n 1, 1) := by decide +kernel
theorem tX7_gather_75 {d : Nat} {l0 l2 l3 l4 : Option Value} {v0 : Value} {x : Int32} {m : jmM} {Q : Option Value → jmM → Prop} : AW d 116 75 [l0, some (.int x), l2, l3, l4] [v0] m Q ↔ AW d 116 76 [l0, some (.int x), l2, l3, l4] [.int x, v0] m Q := A_iload_n hB_X7_gather dX7_gather_75 rfl
theorem dX7_gather_76 : decode cX7_gather 76 = .ok (.if_icmp .ne 81, 3) := by decide +kernel
theorem tX7_gather_76 {d : Nat} {l0 l1 l2 l3 l4 : Option Value} {x y : Int32} {m : jmM} {Q : Option Value → jmM → Prop} : AW d 116 76 [l0, l1, l2, l3, l4] [.int y, .int x] m Q ↔ if x = y then AW d 116 79 [l0, l1, l2, l3, l4] [] m Q else AW d 116 157 [l0, l1, l2, l3, l4] [] m Q := A_icmp_ne hB_X7_gather dX7_gather_76 (by decide)
theorem dX7_gather_79 : decode cX7_gather 79 = .ok (.iload 4, 2) := by decide +kernel
theorem tX7_gather_79 {d : Nat} {l0 l1 l2 l3 : Option Value} {x : Int32} {m : jmM} {Q : Option Value → jmM → Prop} : AW d 116 79 [l0, l1, l2, l3, some (.int x)] [] m Q ↔ AW d 116 81 [l0, l1, l2, l3, some (.int x)] [.int x] m Q := A_iload hB_X7_gather dX7_gather_79 rfl
theorem dX7_gather_81 : decode cX7_gather 81 = .ok (.ifCond .lt 76, 3) := by decide +kernel
theorem tX7_gather_81 {d : Nat} {l0 l1 l2 l3 l4 : Option Value} {x : Int32} {m : jmM} {Q : Option Value → jmM → Prop} : AW d 116 81 [l0, l1, l2, l3, l4] [.int x] m Q ↔ if x < 0 then AW d 116 157 [l0, l1, l2, l3, l4] [] m Q else AW d 116 84 [l0, l1, l2, l3, l4] [] m Q := A_if_lt hB_X7_gather dX7_gather_81 (by decide)
theorem dX7_gather_84 : decode cX7_gather 84 = .ok (.iload 4, 2) := by decide +kernel
theorem tX7_gather_84 {d : Nat} {l0 l1 l2 l3 : Option Value} {x : Int32} {m : jmM} {Q : Option Value → jmM → Prop} : AW d 116 84 [l0, l1, l2, l3, some (.int x)] [] m Q ↔ AW d 116 86 [l0, l1, l2, l3, some (.int x)] [.int x] m Q := A_iload hB_X7_gather dX7_gather_84 rfl
theorem dX7_gather_86 : decode cX7_gather 86 = .ok (.aload_n 0, 1) := by decide +kernel
theorem tX7_gather_86 {d : Nat} {l1 l2 l3 l4 : Option Value} {v0 : Value} {x : Nat} {m : jmM} {Q : Option Value → jmM → Prop} : AW d 116 86 [some (.ref x), l1, l2, l3, l4] [v0] m Q ↔ AW d 116 87 [some (.ref x), l1, l2, l3, l4] [.ref x, v0] m Q := A_aload_n hB_X7_gather dX7_gather_86 rfl
theorem dX7_gather_87 : decode cX7_gather 87 = .ok (.getfield 35, 3) := by decide +kernel
theorem tX7_gather_87 {d : Nat} {l0 l1 l2 l3 l4 : Option Value} {v1 : Value} {a : Nat} {m : jmM} {Q : Option Value → jmM → Prop} : AW d 116 87 [l0, l1, l2, l3, l4] [.ref a, v1] m Q ↔ (mS m a).1 = 7 ∧ AW d 116 90 [l0, l1, l2, l3, l4] [.int (mI m a 7), v1] m Q := A_getfield (f := fun m a => .int (mI m a 7)) hB_X7_gather dX7_gather_87 hO_X7_gather fF_7_35 rfl
theorem dX7_gather_90 : decode cX7_gather 90 = .ok (.if_icmp .ge 67, 3) := by decide +kernel
theorem tX7_gather_90 {d : Nat} {l0 l1 l2 l3 l4 : Option Value} {x y : Int32} {m : jmM} {Q : Option Value → jmM → Prop} : AW d 116 90 [l0, l1, l2, l3, l4] [.int y, .int x] m Q ↔ if y ≤ x then AW d 116 157 [l0, l1, l2, l3, l4] [] m Q else AW d 116 93 [l0, l1, l2, l3, l4] [] m Q := A_icmp_ge hB_X7_gather dX7_gather_90 (by decide)
theorem dX7_gather_93 : decode cX7_gather 93 = .ok (.aload_n 0, 1) := by decide +kernel
theorem tX7_gather_93 {d : Nat} {l1 l2 l3 l4 : Option Value} {x : Nat} {m : jmM} {Q : Option Value → jmM → Prop} : AW d 116 93 [some (.ref x), l1, l2, l3, l4] [] m Q ↔ AW d 116 94 [some (.ref x), l1, l2, l3, l4] [.ref x] m Q := A_aload_n hB_X7_gather dX7_gather_93 rfl
theorem dX7_gather_94 : decode cX7_gather 94 = .ok (.getfield 28, 3) := by decide +kernel
theorem tX7_gather_94 {d : Nat} {l0 l1 l2 l3 l4 : Option Value} {a : Nat} {m : jmM} {Q : Option Value → jmM → Prop} : AW d 116 94 [l0, l1, l2, l3, l4] [.ref a] m Q ↔ (mS m a).1 = 7 ∧ AW d 116 97 [l0, l1, l2, l3, l4] [va_rf (mR m a 5)] m Q := A_getfield (f := fun m a => va_rf (mR m a 5)) hB_X7_gather dX7_gather_94 hO_X7_gather fF_7_28 rfl
theorem dX7_gather_97 : decode cX7_gather 97 = .ok (.iload 4, 2) := by decide +kernel
theorem tX7_gather_97 {d : Nat} {l0 l1 l2 l3 : Option Value} {v0 : Value} {x : Int32} {m : jmM} {Q : Option Value → jmM → Prop} : AW d 116 97 [l0, l1, l2, l3, some (.int x)] [v0] m Q ↔ AW d 116 99 [l0, l1, l2, l3, some (.int x)] [.int x, v0] m Q := A_iload hB_X7_gather dX7_gather_97 rfl
theorem dX7_gather_99 : decode cX7_gather 99 = .ok (.aload_n 0, 1) := by decide +kernel
theorem tX7_gather_99 {d : Nat} {l1 l2 l3 l4 : Option Value} {v0 v1 : Value} {x : Nat} {m : jmM} {Q : Option Value → jmM → Prop} : AW d 116 99 [some (.ref x), l1, l2, l3, l4] [v0, v1] m Q ↔ AW d 116 100 [some (.ref x), l1, l2, l3, l4] [.ref x, v0, v1] m Q := A_aload_n hB_X7_gather dX7_gather_99 rfl
theorem dX7_gather_100 : decode cX7_gather 100 = .ok (.getfield 28, 3) := by decide +kernel
theorem tX7_gather_100 {d : Nat} {l0 l1 l2 l3 l4 : Option Value} {v1 v2 : Value} {a : Nat} {m : jmM} {Q : Option Value → jmM → Prop} : AW d 116 100 [l0, l1, l2, l3, l4] [.ref a, v1, v2] m Q ↔ (mS m a).1 = 7 ∧ AW d 116 103 [l0, l1, l2, l3, l4] [va_rf (mR m a 5), v1, v2] m Q := A_getfield (f := fun m a => va_rf (mR m a 5)) hB_X7_gather dX7_gather_100 hO_X7_gather fF_7_28 rfl
theorem dX7_gather_103 : decode cX7_gather 103 = .ok (.iload 4, 2) := by decide +kernel
theorem tX7_gather_103 {d : Nat} {l0 l1 l2 l3 : Option Value} {v0 v1 v2 : Value} {x : Int32} {m : jmM} {Q : Option Value → jmM → Prop} : AW d 116 103 [l0, l1, l2, l3, some (.int x)] [v0, v1, v2] m Q ↔ AW d 116 105 [l0, l1, l2, l3, some (.int x)] [.int x, v0, v1, v2] m Q := A_iload hB_X7_gather dX7_gather_103 rfl
theorem dX7_gather_105 : decode cX7_gather 105 = .ok (.laload, 1) := by decide +kernel
theorem tX7_gather_105 {d : Nat} {l0 l1 l2 l3 l4 : Option Value} {v2 v3 : Value} {i : Int32} {a : Nat} {m : jmM} {Q : Option Value → jmM → Prop} : AW d 116 105 [l0, l1, l2, l3, l4] [.int i, .ref a, v2, v3] m Q ↔ ((mS m a).1 = 21 ∧ jIx i (mS m a).2) ∧ AW d 116 106 [l0, l1, l2, l3, l4] [.long (mL m a (jx i)), v2, v3] m Q := A_laload hB_X7_gather dX7_gather_105
theorem dX7_gather_106 : decode cX7_gather 106 = .ok (.aload_n 0, 1) := by decide +kernel
theorem tX7_gather_106 {d : Nat} {l1 l2 l3 l4 : Option Value} {v0 v1 v2 : Value} {x : Nat} {m : jmM} {Q : Option Value → jmM → Prop} : AW d 116 106 [some (.ref x), l1, l2, l3, l4] [v0, v1, v2] m Q ↔ AW d 116 107 [some (.ref x), l1, l2, l3, l4] [.ref x, v0, v1, v2] m Q := A_aload_n hB_X7_gather dX7_gather_106 rfl
theorem dX7_gather_107 : decode cX7_gather 107 = .ok (.getfield 18, 3) := by decide +kernel
theorem tX7_gather_107 {d : Nat} {l0 l1 l2 l3 l4 : Option Value} {v1 v2 v3 : Value} {a : Nat} {m : jmM} {Q : Option Value → jmM → Prop} : AW d 116 107 [l0, l1, l2, l3, l4] [.ref a, v1, v2, v3] m Q ↔ (mS m a).1 = 7 ∧ AW d 116 110 [l0, l1, l2, l3, l4] [va_rf (mR m a 2), v1, v2, v3] m Q := A_getfield (f := fun m a => va_rf (mR m a 2)) hB_X7_gather dX7_gather_107 hO_X7_gather fF_7_18 rfl
theorem dX7_gather_110 : decode cX7_gather 110 = .ok (.iload_n 3, 1) := by decide +kernel
theorem tX7_gather_110 {d : Nat} {l0 l1 l2 l4 : Option Value} {v0 v1 v2 v3 : Value} {x : Int32} {m : jmM} {Q : Option Value → jmM → Prop} : AW d 116 110 [l0, l1, l2, some (.int x), l4] [v0, v1, v2, v3] m Q ↔ AW d 116 111 [l0, l1, l2, some (.int x), l4] [.int x, v0, v1, v2, v3] m Q := A_iload_n hB_X7_gather dX7_gather_110 rfl
theorem dX7_gather_111 : decode cX7_gather 111 = .ok (.iaload, 1) := by decide +kernel
theorem tX7_gather_111 {d : Nat} {l0 l1 l2 l3 l4 : Option Value} {v2 v3 v4 : Value} {i : Int32} {a : Nat} {m : jmM} {Q : Option Value → jmM → Prop} : AW d 116 111 [l0, l1, l2, l3, l4] [.int i, .ref a, v2, v3, v4] m Q ↔ (((mS m a).1 = 20 ∨ a = jScr) ∧ jIx i (mS m a).2) ∧ AW d 116 112 [l0, l1, l2, l3, l4] [.int (mI m a (jx i)), v2, v3, v4] m Q := A_iaload hB_X7_gather dX7_gather_111
theorem dX7_gather_112 : decode cX7_gather 112 = .ok (.i2l, 1) := by decide +kernel
theorem tX7_gather_112 {d : Nat} {l0 l1 l2 l3 l4 : Option Value} {v1 v2 v3 : Value} {x : Int32} {m : jmM} {Q : Option Value → jmM → Prop} : AW d 116 112 [l0, l1, l2, l3, l4] [.int x, v1, v2, v3] m Q ↔ AW d 116 113 [l0, l1, l2, l3, l4] [.long x.toInt64, v1, v2, v3] m Q := A_i2l hB_X7_gather dX7_gather_112
theorem dX7_gather_113 : decode cX7_gather 113 = .ok (.aload_n 0, 1) := by decide +kernel
theorem tX7_gather_113 {d : Nat} {l1 l2 l3 l4 : Option Value} {v0 v1 v2 v3 : Value} {x : Nat} {m : jmM} {Q : Option Value → jmM → Prop} : AW d 116 113 [some (.ref x), l1, l2, l3, l4] [v0, v1, v2, v3] m Q ↔ AW d 116 114 [some (.ref x), l1, l2, l3, l4] [.ref x, v0, v1, v2, v3] m Q := A_aload_n hB_X7_gather dX7_gather_113 rfl
theorem dX7_gather_114 : decode cX7_gather 114 = .ok (.getfield 21, 3) := by decide +kernel
theorem tX7_gather_114 {d : Nat} {l0 l1 l2 l3 l4 : Option Value} {v1 v2 v3 v4 : Value} {a : Nat} {m : jmM} {Q : Option Value → jmM → Prop} : AW d 116 114 [l0, l1, l2, l3, l4] [.ref a, v1, v2, v3, v4] m Q ↔ (mS m a).1 = 7 ∧ AW d 116 117 [l0, l1, l2, l3, l4] [va_rf (mR m a 3), v1, v2, v3, v4] m Q := A_getfield (f := fun m a => va_rf (mR m a 3)) hB_X7_gather dX7_gather_114 hO_X7_gather fF_7_21 rfl
theorem dX7_gather_117 : decode cX7_gather 117 = .ok (.iload_n 3, 1) := by decide +kernel
theorem tX7_gather_117 {d : Nat} {l0 l1 l2 l4 : Option Value} {v0 v1 v2 v3 v4 : Value} {x : Int32} {m : jmM} {Q : Option Value → jmM → Prop} : AW d 116 117 [l0, l1, l2, some (.int x), l4] [v0, v1, v2, v3, v4] m Q ↔ AW d 116 118 [l0, l1, l2, some (.int x), l4] [.int x, v0, v1, v2, v3, v4] m Q := A_iload_n hB_X7_gather dX7_gather_117 rfl
theorem dX7_gather_118 : decode cX7_gather 118 = .ok (.iaload, 1) := by decide +kernel
theorem tX7_gather_118 {d : Nat} {l0 l1 l2 l3 l4 : Option Value} {v2 v3 v4 v5 : Value} {i : Int32} {a : Nat} {m : jmM} {Q : Option Value → jmM → Prop} : AW d 116 118 [l0, l1, l2, l3, l4] [.int i, .ref a, v2, v3, v4, v5] m Q ↔ (((mS m a).1 = 20 ∨ a = jScr) ∧ jIx i (mS m a).2) ∧ AW d 116 119 [l0, l1, l2, l3, l4] [.int (mI m a (jx i)), v2, v3, v4, v5] m Q := A_iaload hB_X7_gather dX7_gather_118
theorem dX7_gather_119 : decode cX7_gather 119 = .ok (.i2l, 1) := by decide +kernel
theorem tX7_gather_119 {d : Nat} {l0 l1 l2 l3 l4 : Option Value} {v1 v2 v3 v4 : Value} {x : Int32} {m : jmM} {Q : Option Value → jmM → Prop} : AW d 116 119 [l0, l1, l2, l3, l4] [.int x, v1, v2, v3, v4] m Q ↔ AW d 116 120 [l0, l1, l2, l3, l4] [.long x.toInt64, v1, v2, v3, v4] m Q := A_i2l hB_X7_gather dX7_gather_119
theorem dX7_gather_120 : decode cX7_gather 120 = .ok (.lsub, 1) := by decide +kernel
theorem tX7_gather_120 {d : Nat} {l0 l1 l2 l3 l4 : Option Value} {v2 v3 v4 : Value} {x y : Int64} {m : jmM} {Q : Option Value → jmM → Prop} : AW d 116 120 [l0, l1, l2, l3, l4] [.long y, .long x, v2, v3, v4] m Q ↔ AW d 116 121 [l0, l1, l2, l3, l4] [.long (x - y), v2, v3, v4] m Q := A_lsub hB_X7_gather dX7_gather_120
theorem dX7_gather_121 : decode cX7_gather 121 = .ok (.invokestatic 52, 3) := by decide +kernel
theorem tX7_gather_121 {d : Nat} {l0 l1 l2 l3 l4 : Option Value} {v2 v3 : Value} {x y : Int64} {m : jmM} {Q : Option Value → jmM → Prop} : AW d 116 121 [l0, l1, l2, l3, l4] [.long y, .long x, v2, v3] m Q ↔ AW d 116 124 [l0, l1, l2, l3, l4] [.long (if y < x then x else y), v2, v3] m Q := A_maxl hB_X7_gather dX7_gather_121 hO_X7_gather fS_7_52 (Nat.le_of_ble_eq_true rfl)
theorem dX7_gather_124 : decode cX7_gather 124 = .ok (.lastore, 1) := by decide +kernel
theorem tX7_gather_124 {d : Nat} {l0 l1 l2 l3 l4 : Option Value} {x : Int64} {i : Int32} {a : Nat} {m : jmM} {Q : Option Value → jmM → Prop} : AW d 116 124 [l0, l1, l2, l3, l4] [.long x, .int i, .ref a] m Q ↔ ((mS m a).1 = 21 ∧ jIx i (mS m a).2) ∧ AW d 116 125 [l0, l1, l2, l3, l4] [] (cL m a (jup (mL m a) (jx i) x)) Q := A_lastore hB_X7_gather dX7_gather_124
theorem dX7_gather_125 : decode cX7_gather 125 = .ok (.aload_n 0, 1) := by decide +kernel
theorem tX7_gather_125 {d : Nat} {l1 l2 l3 l4 : Option Value} {x : Nat} {m : jmM} {Q : Option Value → jmM → Prop} : AW d 116 125 [some (.ref x), l1, l2, l3, l4] [] m Q ↔ AW d 116 126 [some (.ref x), l1, l2, l3, l4] [.ref x] m Q := A_aload_n hB_X7_gather dX7_gather_125 rfl
theorem dX7_gather_126 : decode cX7_gather 126 = .ok (.getfield 32, 3) := by decide +kernel
theorem tX7_gather_126 {d : Nat} {l0 l1 l2 l3 l4 : Option Value} {a : Nat} {m : jmM} {Q : Option Value → jmM → Prop} : AW d 116 126 [l0, l1, l2, l3, l4] [.ref a] m Q ↔ (mS m a).1 = 7 ∧ AW d 116 129 [l0, l1, l2, l3, l4] [va_rf (mR m a 6)] m Q := A_getfield (f := fun m a => va_rf (mR m a 6)) hB_X7_gather dX7_gather_126 hO_X7_gather fF_7_32 rfl
theorem dX7_gather_129 : decode cX7_gather 129 = .ok (.iload 4, 2) := by decide +kernel
theorem tX7_gather_129 {d : Nat} {l0 l1 l2 l3 : Option Value} {v0 : Value} {x : Int32} {m : jmM} {Q : Option Value → jmM → Prop} : AW d 116 129 [l0, l1, l2, l3, some (.int x)] [v0] m Q ↔ AW d 116 131 [l0, l1, l2, l3, some (.int x)] [.int x, v0] m Q := A_iload hB_X7_gather dX7_gather_129 rfl
theorem dX7_gather_131 : decode cX7_gather 131 = .ok (.aload_n 0, 1) := by decide +kernel
theorem tX7_gather_131 {d : Nat} {l1 l2 l3 l4 : Option Value} {v0 v1 : Value} {x : Nat} {m : jmM} {Q : Option Value → jmM → Prop} : AW d 116 131 [some (.ref x), l1, l2, l3, l4] [v0, v1] m Q ↔ AW d 116 132 [some (.ref x), l1, l2, l3, l4] [.ref x, v0, v1] m Q := A_aload_n hB_X7_gather dX7_gather_131 rfl
theorem dX7_gather_132 : decode cX7_gather 132 = .ok (.getfield 32, 3) := by decide +kernel
theorem tX7_gather_132 {d : Nat} {l0 l1 l2 l3 l4 : Option Value} {v1 v2 : Value} {a : Nat} {m : jmM} {Q : Option Value → jmM → Prop} : AW d 116 132 [l0, l1, l2, l3, l4] [.ref a, v1, v2] m Q ↔ (mS m a).1 = 7 ∧ AW d 116 135 [l0, l1, l2, l3, l4] [va_rf (mR m a 6), v1, v2] m Q := A_getfield (f := fun m a => va_rf (mR m a 6)) hB_X7_gather dX7_gather_132 hO_X7_gather fF_7_32 rfl
theorem dX7_gather_135 : decode cX7_gather 135 = .ok (.iload 4, 2) := by decide +kernel
theorem tX7_gather_135 {d : Nat} {l0 l1 l2 l3 : Option Value} {v0 v1 v2 : Value} {x : Int32} {m : jmM} {Q : Option Value → jmM → Prop} : AW d 116 135 [l0, l1, l2, l3, some (.int x)] [v0, v1, v2] m Q ↔ AW d 116 137 [l0, l1, l2, l3, some (.int x)] [.int x, v0, v1, v2] m Q := A_iload hB_X7_gather dX7_gather_135 rfl
theorem dX7_gather_137 : decode cX7_gather 137 = .ok (.laload, 1) := by decide +kernel
theorem tX7_gather_137 {d : Nat} {l0 l1 l2 l3 l4 : Option Value} {v2 v3 : Value} {i : Int32} {a : Nat} {m : jmM} {Q : Option Value → jmM → Prop} : AW d 116 137 [l0, l1, l2, l3, l4] [.int i, .ref a, v2, v3] m Q ↔ ((mS m a).1 = 21 ∧ jIx i (mS m a).2) ∧ AW d 116 138 [l0, l1, l2, l3, l4] [.long (mL m a (jx i)), v2, v3] m Q := A_laload hB_X7_gather dX7_gather_137
theorem dX7_gather_138 : decode cX7_gather 138 = .ok (.aload_n 0, 1) := by decide +kernel
theorem tX7_gather_138 {d : Nat} {l1 l2 l3 l4 : Option Value} {v0 v1 v2 : Value} {x : Nat} {m : jmM} {Q : Option Value → jmM → Prop} : AW d 116 138 [some (.ref x), l1, l2, l3, l4] [v0, v1, v2] m Q ↔ AW d 116 139 [some (.ref x), l1, l2, l3, l4] [.ref x, v0, v1, v2] m Q := A_aload_n hB_X7_gather dX7_gather_138 rfl
theorem dX7_gather_139 : decode cX7_gather 139 = .ok (.getfield 18, 3) := by decide +kernel
theorem tX7_gather_139 {d : Nat} {l0 l1 l2 l3 l4 : Option Value} {v1 v2 v3 : Value} {a : Nat} {m : jmM} {Q : Option Value → jmM → Prop} : AW d 116 139 [l0, l1, l2, l3, l4] [.ref a, v1, v2, v3] m Q ↔ (mS m a).1 = 7 ∧ AW d 116 142 [l0, l1, l2, l3, l4] [va_rf (mR m a 2), v1, v2, v3] m Q := A_getfield (f := fun m a => va_rf (mR m a 2)) hB_X7_gather dX7_gather_139 hO_X7_gather fF_7_18 rfl
theorem dX7_gather_142 : decode cX7_gather 142 = .ok (.iload_n 3, 1) := by decide +kernel
theorem tX7_gather_142 {d : Nat} {l0 l1 l2 l4 : Option Value} {v0 v1 v2 v3 : Value} {x : Int32} {m : jmM} {Q : Option Value → jmM → Prop} : AW d 116 142 [l0, l1, l2, some (.int x), l4] [v0, v1, v2, v3] m Q ↔ AW d 116 143 [l0, l1, l2, some (.int x), l4] [.int x, v0, v1, v2, v3] m Q := A_iload_n hB_X7_gather dX7_gather_142 rfl
theorem dX7_gather_143 : decode cX7_gather 143 = .ok (.iaload, 1) := by decide +kernel
theorem tX7_gather_143 {d : Nat} {l0 l1 l2 l3 l4 : Option Value} {v2 v3 v4 : Value} {i : Int32} {a : Nat} {m : jmM} {Q : Option Value → jmM → Prop} : AW d 116 143 [l0, l1, l2, l3, l4] [.int i, .ref a, v2, v3, v4] m Q ↔ (((mS m a).1 = 20 ∨ a = jScr) ∧ jIx i (mS m a).2) ∧ AW d 116 144 [l0, l1, l2, l3, l4] [.int (mI m a (jx i)), v2, v3, v4] m Q := A_iaload hB_X7_gather dX7_gather_143
theorem dX7_gather_144 : decode cX7_gather 144 = .ok (.i2l, 1) := by decide +kernel
theorem tX7_gather_144 {d : Nat} {l0 l1 l2 l3 l4 : Option Value} {v1 v2 v3 : Value} {x : Int32} {m : jmM} {Q : Option Value → jmM → Prop} : AW d 116 144 [l0, l1, l2, l3, l4] [.int x, v1, v2, v3] m Q ↔ AW d 116 145 [l0, l1, l2, l3, l4] [.long x.toInt64, v1, v2, v3] m Q := A_i2l hB_X7_gather dX7_gather_144
theorem dX7_gather_145 : decode cX7_gather 145 = .ok (.aload_n 0, 1) := by decide +kernel
theorem tX7_gather_145 {d : Nat} {l1 l2 l3 l4 : Option Value} {v0 v1 v2 v3 : Value} {x : Nat} {m : jmM} {Q : Option Value → jmM → Prop} : AW d 116 145 [some (.ref x), l1, l2, l3, l4] [v0, v1, v2, v3] m Q ↔ AW d 116 146 [some (.ref x), l1, l2, l3, l4] [.ref x, v0, v1, v2, v3] m Q := A_aload_n hB_X7_gather dX7_gather_145 rfl
theorem dX7_gather_146 : decode cX7_gather 146 = .ok (.getfield 21, 3) := by decide +kernel
theorem tX7_gather_146 {d : Nat} {l0 l1 l2 l3 l4 : Option Value} {v1 v2 v3 v4 : Value} {a : Nat} {m : jmM} {Q : Option Value → jmM → Prop} : AW d 116 146 [l0, l1, l2, l3, l4] [.ref a, v1, v2, v3, v4] m Q ↔ (mS m a).1 = 7 ∧ AW d 116 149 [l0, l1, l2, l3, l4] [va_rf (mR m a 3), v1, v2, v3, v4] m Q := A_getfield (f := fun m a => va_rf (mR m a 3)) hB_X7_gather dX7_gather_146 hO_X7_gather fF_7_21 rfl
theorem dX7_gather_149 : decode cX7_gather 149 = .ok (.iload_n 3, 1) := by decide +kernel
theorem tX7_gather_149 {d : Nat} {l0 l1 l2 l4 : Option Value} {v0 v1 v2 v3 v4 : Value} {x : Int32} {m : jmM} {Q : Option Value → jmM → Prop} : AW d 116 149 [l0, l1, l2, some (.int x), l4] [v0, v1, v2, v3, v4] m Q ↔ AW d 116 150 [l0, l1, l2, some (.int x), l4] [.int x, v0, v1, v2, v3, v4] m Q := A_iload_n hB_X7_gather dX7_gather_149 rfl
theorem dX7_gather_150 : decode cX7_gather 150 = .ok (.iaload, 1) := by decide +kernel
theorem tX7_gather_150 {d : Nat} {l0 l1 l2 l3 l4 : Option Value} {v2 v3 v4 v5 : Value} {i : Int32} {a : Nat} {m : jmM} {Q : Option Value → jmM → Prop} : AW d 116 150 [l0, l1, l2, l3, l4] [.int i, .ref a, v2, v3, v4, v5] m Q ↔ (((mS m a).1 = 20 ∨ a = jScr) ∧ jIx i (mS m a).2) ∧ AW d 116 151 [l0, l1, l2, l3, l4] [.int (mI m a (jx i)), v2, v3, v4, v5] m Q := A_iaload hB_X7_gather dX7_gather_150
theorem dX7_gather_151 : decode cX7_gather 151 = .ok (.i2l, 1) := by decide +kernel
theorem tX7_gather_151 {d : Nat} {l0 l1 l2 l3 l4 : Option Value} {v1 v2 v3 v4 : Value} {x : Int32} {m : jmM} {Q : Option Value → jmM → Prop} : AW d 116 151 [l0, l1, l2, l3, l4] [.int x, v1, v2, v3, v4] m Q ↔ AW d 116 152 [l0, l1, l2, l3, l4] [.long x.toInt64, v1, v2, v3, v4] m Q := A_i2l hB_X7_gather dX7_gather_151
theorem dX7_gather_152 : decode cX7_gather 152 = .ok (.ladd, 1) := by decide +kernel
theorem tX7_gather_152 {d : Nat} {l0 l1 l2 l3 l4 : Option Value} {v2 v3 v4 : Value} {x y : Int64} {m : jmM} {Q : Option Value → jmM → Prop} : AW d 116 152 [l0, l1, l2, l3, l4] [.long y, .long x, v2, v3, v4] m Q ↔ AW d 116 153 [l0, l1, l2, l3, l4] [.long (x + y), v2, v3, v4] m Q := A_ladd hB_X7_gather dX7_gather_152
theorem dX7_gather_153 : decode cX7_gather 153 = .ok (.invokestatic 56, 3) := by decide +kernel
theorem tX7_gather_153 {d : Nat} {l0 l1 l2 l3 l4 : Option Value} {v2 v3 : Value} {x y : Int64} {m : jmM} {Q : Option Value → jmM → Prop} : AW d 116 153 [l0, l1, l2, l3, l4] [.long y, .long x, v2, v3] m Q ↔ AW d 116 156 [l0, l1, l2, l3, l4] [.long (if y < x then y else x), v2, v3] m Q := A_minl hB_X7_gather dX7_gather_153 hO_X7_gather fS_7_56 (Nat.le_of_ble_eq_true rfl)
theorem dX7_gather_156 : decode cX7_gather 156 = .ok (.lastore, 1) := by decide +kernel
theorem tX7_gather_156 {d : Nat} {l0 l1 l2 l3 l4 : Option Value} {x : Int64} {i : Int32} {a : Nat} {m : jmM} {Q : Option Value → jmM → Prop} : AW d 116 156 [l0, l1, l2, l3, l4] [.long x, .int i, .ref a] m Q ↔ ((mS m a).1 = 21 ∧ jIx i (mS m a).2) ∧ AW d 116 157 [l0, l1, l2, l3, l4] [] (cL m a (jup (mL m a) (jx i) x)) Q := A_lastore hB_X7_gather dX7_gather_156
theorem dX7_gather_157 : decode cX7_gather 157 = .ok (.iinc 3 1, 3) := by decide +kernel
theorem tX7_gather_157 {d : Nat} {l0 l1 l2 l4 : Option Value} {x : Int32} {m : jmM} {Q : Option Value → jmM → Prop} : AW d 116 157 [l0, l1, l2, some (.int x), l4] [] m Q ↔ AW d 116 160 [l0, l1, jc1 l2, some (.int (x + 1)), l4] [] m Q := A_iinc hB_X7_gather dX7_gather_157 rfl (Nat.le_of_ble_eq_true rfl) (v := 1) (by decide) rfl
theorem dX7_gather_160 : decode cX7_gather 160 = .ok (.goto (-113), 3) := by decide +kernel
theorem tX7_gather_160 {d : Nat} {l0 l1 l2 l3 l4 : Option Value} {m : jmM} {Q : Option Value → jmM → Prop} : AW d 116 160 [l0, l1, l2, l3, l4] [] m Q ↔ AW d 116 47 [l0, l1, l2, l3, l4] [] m Q := A_goto hB_X7_gather dX7_gather_160 (by decide)
theorem dX7_gather_163 : decode cX7_gather 163 = .ok (.return_, 1) := by decide +kernel
theorem tX7_gather_163 {d : Nat} {l0 l1 l2 l3 l4 : Option Value} {m : jmM} {Q : Option Value → jmM → Prop} : AW d 116 163 [l0, l1, l2, l3, l4] [] m Q ↔ Q none m := A_return hB_X7_gather dX7_gather_163 hR_X7_gather
theorem hB_X7_areAsFound : jB 117 = cX7_areAsFound := rfl
theorem hO_X7_areAsFound : jO 117 = 7 := rfl
theorem hR_X7_areAsFound : jRt 117 = (some .boolean) := rfl
theorem nX7_areAsFound (d : Nat) (x0 : Nat) (x1 : Nat) (m : jmM) (Q : Option Value → jmM → Prop) : CC (d + 1) 117 [.ref x0, .ref x1] m Q ↔ AW d 117 0 [some (.ref x0), some (.ref x1), none] [] m Q := CC_body (Nat.le_of_ble_eq_true rfl)
theorem dX7_areAsFound_0 : decode cX7_areAsFound 0 = .ok (.iconst 0, 1) := by decide +kernel
theorem tX7_areAsFound_0 {d : Nat} {l0 l1 l2 : Option Value} {m : jmM} {Q : Option Value → jmM → Prop} : AW d 117 0 [l0, l1, l2] [] m Q ↔ AW d 117 1 [l0, l1, l2] [.int 0] m Q := A_iconst hB_X7_areAsFound dX7_areAsFound_0 (by decide)
theorem dX7_areAsFound_1 : decode cX7_areAsFound 1 = .ok (.istore_n 2, 1) := by decide +kernel
theorem tX7_areAsFound_1 {d : Nat} {l0 l1 l2 : Option Value} {x : Int32} {m : jmM} {Q : Option Value → jmM → Prop} : AW d 117 1 [l0, l1, l2] [.int x] m Q ↔ AW d 117 2 [l0, jc1 l1, some (.int x)] [] m Q := A_istore_n hB_X7_areAsFound dX7_areAsFound_1 (Nat.le_of_ble_eq_true rfl) rfl
theorem dX7_areAsFound_2 : decode cX7_areAsFound 2 = .ok (.iload_n 2, 1) := by decide +kernel
theorem tX7_areAsFound_2 {d : Nat} {l0 l1 : Option Value} {x : Int32} {m : jmM} {Q : Option Value → jmM → Prop} : AW d 117 2 [l0, l1, some (.int x)] [] m Q ↔ AW d 117 3 [l0, l1, some (.int x)] [.int x] m Q := A_iload_n hB_X7_areAsFound dX7_areAsFound_2 rfl
theorem dX7_areAsFound_3 : decode cX7_areAsFound 3 = .ok (.aload_n 0, 1) := by decide +kernel
theorem tX7_areAsFound_3 {d : Nat} {l1 l2 : Option Value} {v0 : Value} {x : Nat} {m : jmM} {Q : Option Value → jmM → Prop} : AW d 117 3 [some (.ref x), l1, l2] [v0] m Q ↔ AW d 117 4 [some (.ref x), l1, l2] [.ref x, v0] m Q := A_aload_n hB_X7_areAsFound dX7_areAsFound_3 rfl
theorem dX7_areAsFound_4 : decode cX7_areAsFound 4 = .ok (.getfield 35, 3) := by decide +kernel
theorem tX7_areAsFound_4 {d : Nat} {l0 l1 l2 : Option Value} {v1 : Value} {a : Nat} {m : jmM} {Q : Option Value → jmM → Prop} : AW d 117 4 [l0, l1, l2] [.ref a, v1] m Q ↔ (mS m a).1 = 7 ∧ AW d 117 7 [l0, l1, l2] [.int (mI m a 7), v1] m Q := A_getfield (f := fun m a => .int (mI m a 7)) hB_X7_areAsFound dX7_areAsFound_4 hO_X7_areAsFound fF_7_35 rfl
theorem dX7_areAsFound_7 : decode cX7_areAsFound 7 = .ok (.if_icmp .ge 43, 3) := by decide +kernel
theorem tX7_areAsFound_7 {d : Nat} {l0 l1 l2 : Option Value} {x y : Int32} {m : jmM} {Q : Option Value → jmM → Prop} : AW d 117 7 [l0, l1, l2] [.int y, .int x] m Q ↔ if y ≤ x then AW d 117 50 [l0, l1, l2] [] m Q else AW d 117 10 [l0, l1, l2] [] m Q := A_icmp_ge hB_X7_areAsFound dX7_areAsFound_7 (by decide)
theorem dX7_areAsFound_10 : decode cX7_areAsFound 10 = .ok (.iload_n 2, 1) := by decide +kernel
theorem tX7_areAsFound_10 {d : Nat} {l0 l1 : Option Value} {x : Int32} {m : jmM} {Q : Option Value → jmM → Prop} : AW d 117 10 [l0, l1, some (.int x)] [] m Q ↔ AW d 117 11 [l0, l1, some (.int x)] [.int x] m Q := A_iload_n hB_X7_areAsFound dX7_areAsFound_10 rfl
theorem dX7_areAsFound_11 : decode cX7_areAsFound 11 = .ok (.aload_n 1, 1) := by decide +kernel
theorem tX7_areAsFound_11 {d : Nat} {l0 l2 : Option Value} {v0 : Value} {x : Nat} {m : jmM} {Q : Option Value → jmM → Prop} : AW d 117 11 [l0, some (.ref x), l2] [v0] m Q ↔ AW d 117 12 [l0, some (.ref x), l2] [.ref x, v0] m Q := A_aload_n hB_X7_areAsFound dX7_areAsFound_11 rfl
theorem dX7_areAsFound_12 : decode cX7_areAsFound 12 = .ok (.arraylength, 1) := by decide +kernel
theorem tX7_areAsFound_12 {d : Nat} {l0 l1 l2 : Option Value} {v1 : Value} {a : Nat} {m : jmM} {Q : Option Value → jmM → Prop} : AW d 117 12 [l0, l1, l2] [.ref a, v1] m Q ↔ ((20 ≤ (mS m a).1 ∧ (mS m a).1 ≤ 26) ∨ a = jScr) ∧ AW d 117 13 [l0, l1, l2] [.int (nI (mS m a).2), v1] m Q := A_arraylength hB_X7_areAsFound dX7_areAsFound_12
theorem dX7_areAsFound_13 : decode cX7_areAsFound 13 = .ok (.if_icmp .ge 37, 3) := by decide +kernel
theorem tX7_areAsFound_13 {d : Nat} {l0 l1 l2 : Option Value} {x y : Int32} {m : jmM} {Q : Option Value → jmM → Prop} : AW d 117 13 [l0, l1, l2] [.int y, .int x] m Q ↔ if y ≤ x then AW d 117 50 [l0, l1, l2] [] m Q else AW d 117 16 [l0, l1, l2] [] m Q := A_icmp_ge hB_X7_areAsFound dX7_areAsFound_13 (by decide)
theorem dX7_areAsFound_16 : decode cX7_areAsFound 16 = .ok (.aload_n 1, 1) := by decide +kernel
theorem tX7_areAsFound_16 {d : Nat} {l0 l2 : Option Value} {x : Nat} {m : jmM} {Q : Option Value → jmM → Prop} : AW d 117 16 [l0, some (.ref x), l2] [] m Q ↔ AW d 117 17 [l0, some (.ref x), l2] [.ref x] m Q := A_aload_n hB_X7_areAsFound dX7_areAsFound_16 rfl
theorem dX7_areAsFound_17 : decode cX7_areAsFound 17 = .ok (.iload_n 2, 1) := by decide +kernel
theorem tX7_areAsFound_17 {d : Nat} {l0 l1 : Option Value} {v0 : Value} {x : Int32} {m : jmM} {Q : Option Value → jmM → Prop} : AW d 117 17 [l0, l1, some (.int x)] [v0] m Q ↔ AW d 117 18 [l0, l1, some (.int x)] [.int x, v0] m Q := A_iload_n hB_X7_areAsFound dX7_areAsFound_17 rfl
theorem dX7_areAsFound_18 : decode cX7_areAsFound 18 = .ok (.laload, 1) := by decide +kernel
theorem tX7_areAsFound_18 {d : Nat} {l0 l1 l2 : Option Value} {i : Int32} {a : Nat} {m : jmM} {Q : Option Value → jmM → Prop} : AW d 117 18 [l0, l1, l2] [.int i, .ref a] m Q ↔ ((mS m a).1 = 21 ∧ jIx i (mS m a).2) ∧ AW d 117 19 [l0, l1, l2] [.long (mL m a (jx i))] m Q := A_laload hB_X7_areAsFound dX7_areAsFound_18
theorem dX7_areAsFound_19 : decode cX7_areAsFound 19 = .ok (.aload_n 0, 1) := by decide +kernel
theorem tX7_areAsFound_19 {d : Nat} {l1 l2 : Option Value} {v0 : Value} {x : Nat} {m : jmM} {Q : Option Value → jmM → Prop} : AW d 117 19 [some (.ref x), l1, l2] [v0] m Q ↔ AW d 117 20 [some (.ref x), l1, l2] [.ref x, v0] m Q := A_aload_n hB_X7_areAsFound dX7_areAsFound_19 rfl
theorem dX7_areAsFound_20 : decode cX7_areAsFound 20 = .ok (.getfield 28, 3) := by decide +kernel
theorem tX7_areAsFound_20 {d : Nat} {l0 l1 l2 : Option Value} {v1 : Value} {a : Nat} {m : jmM} {Q : Option Value → jmM → Prop} : AW d 117 20 [l0, l1, l2] [.ref a, v1] m Q ↔ (mS m a).1 = 7 ∧ AW d 117 23 [l0, l1, l2] [va_rf (mR m a 5), v1] m Q := A_getfield (f := fun m a => va_rf (mR m a 5)) hB_X7_areAsFound dX7_areAsFound_20 hO_X7_areAsFound fF_7_28 rfl
theorem dX7_areAsFound_23 : decode cX7_areAsFound 23 = .ok (.iload_n 2, 1) := by decide +kernel
theorem tX7_areAsFound_23 {d : Nat} {l0 l1 : Option Value} {v0 v1 : Value} {x : Int32} {m : jmM} {Q : Option Value → jmM → Prop} : AW d 117 23 [l0, l1, some (.int x)] [v0, v1] m Q ↔ AW d 117 24 [l0, l1, some (.int x)] [.int x, v0, v1] m Q := A_iload_n hB_X7_areAsFound dX7_areAsFound_23 rfl
theorem dX7_areAsFound_24 : decode cX7_areAsFound 24 = .ok (.laload, 1) := by decide +kernel
theorem tX7_areAsFound_24 {d : Nat} {l0 l1 l2 : Option Value} {v2 : Value} {i : Int32} {a : Nat} {m : jmM} {Q : Option Value → jmM → Prop} : AW d 117 24 [l0, l1, l2] [.int i, .ref a, v2] m Q ↔ ((mS m a).1 = 21 ∧ jIx i (mS m a).2) ∧ AW d 117 25 [l0, l1, l2] [.long (mL m a (jx i)), v2] m Q := A_laload hB_X7_areAsFound dX7_areAsFound_24
theorem dX7_areAsFound_25 : decode cX7_areAsFound 25 = .ok (.lcmp, 1) := by decide +kernel
theorem tX7_areAsFound_25 {d : Nat} {l0 l1 l2 : Option Value} {x y : Int64} {m : jmM} {Q : Option Value → jmM → Prop} : AW d 117 25 [l0, l1, l2] [.long y, .long x] m Q ↔ AW d 117 26 [l0, l1, l2] [.int (lg_cmp x y)] m Q := A_lcmp hB_X7_areAsFound dX7_areAsFound_25
theorem dX7_areAsFound_26 : decode cX7_areAsFound 26 = .ok (.ifCond .lt 16, 3) := by decide +kernel
theorem tX7_areAsFound_26 {d : Nat} {l0 l1 l2 : Option Value} {x : Int32} {m : jmM} {Q : Option Value → jmM → Prop} : AW d 117 26 [l0, l1, l2] [.int x] m Q ↔ if x < 0 then AW d 117 42 [l0, l1, l2] [] m Q else AW d 117 29 [l0, l1, l2] [] m Q := A_if_lt hB_X7_areAsFound dX7_areAsFound_26 (by decide)
theorem dX7_areAsFound_29 : decode cX7_areAsFound 29 = .ok (.aload_n 1, 1) := by decide +kernel
theorem tX7_areAsFound_29 {d : Nat} {l0 l2 : Option Value} {x : Nat} {m : jmM} {Q : Option Value → jmM → Prop} : AW d 117 29 [l0, some (.ref x), l2] [] m Q ↔ AW d 117 30 [l0, some (.ref x), l2] [.ref x] m Q := A_aload_n hB_X7_areAsFound dX7_areAsFound_29 rfl
theorem dX7_areAsFound_30 : decode cX7_areAsFound 30 = .ok (.iload_n 2, 1) := by decide +kernel
theorem tX7_areAsFound_30 {d : Nat} {l0 l1 : Option Value} {v0 : Value} {x : Int32} {m : jmM} {Q : Option Value → jmM → Prop} : AW d 117 30 [l0, l1, some (.int x)] [v0] m Q ↔ AW d 117 31 [l0, l1, some (.int x)] [.int x, v0] m Q := A_iload_n hB_X7_areAsFound dX7_areAsFound_30 rfl
theorem dX7_areAsFound_31 : decode cX7_areAsFound 31 = .ok (.laload, 1) := by decide +kernel
theorem tX7_areAsFound_31 {d : Nat} {l0 l1 l2 : Option Value} {i : Int32} {a : Nat} {m : jmM} {Q : Option Value → jmM → Prop} : AW d 117 31 [l0, l1, l2] [.int i, .ref a] m Q ↔ ((mS m a).1 = 21 ∧ jIx i (mS m a).2) ∧ AW d 117 32 [l0, l1, l2] [.long (mL m a (jx i))] m Q := A_laload hB_X7_areAsFound dX7_areAsFound_31
theorem dX7_areAsFound_32 : decode cX7_areAsFound 32 = .ok (.aload_n 0, 1) := by decide +kernel
theorem tX7_areAsFound_32 {d : Nat} {l1 l2 : Option Value} {v0 : Value} {x : Nat} {m : jmM} {Q : Option Value → jmM → Prop} : AW d 117 32 [some (.ref x), l1, l2] [v0] m Q ↔ AW d 117 33 [some (.ref x), l1, l2] [.ref x, v0] m Q := A_aload_n hB_X7_areAsFound dX7_areAsFound_32 rfl
theorem dX7_areAsFound_33 : decode cX7_areAsFound 33 = .ok (.getfield 32, 3) := by decide +kernel
theorem tX7_areAsFound_33 {d : Nat} {l0 l1 l2 : Option Value} {v1 : Value} {a : Nat} {m : jmM} {Q : Option Value → jmM → Prop} : AW d 117 33 [l0, l1, l2] [.ref a, v1] m Q ↔ (mS m a).1 = 7 ∧ AW d 117 36 [l0, l1, l2] [va_rf (mR m a 6), v1] m Q := A_getfield (f := fun m a => va_rf (mR m a 6)) hB_X7_areAsFound dX7_areAsFound_33 hO_X7_areAsFound fF_7_32 rfl
theorem dX7_areAsFound_36 : decode cX7_areAsFound 36 = .ok (.iload_n 2, 1) := by decide +kernel
theorem tX7_areAsFound_36 {d : Nat} {l0 l1 : Option Value} {v0 v1 : Value} {x : Int32} {m : jmM} {Q : Option Value → jmM → Prop} : AW d 117 36 [l0, l1, some (.int x)] [v0, v1] m Q ↔ AW d 117 37 [l0, l1, some (.int x)] [.int x, v0, v1] m Q := A_iload_n hB_X7_areAsFound dX7_areAsFound_36 rfl
theorem dX7_areAsFound_37 : decode cX7_areAsFound 37 = .ok (.laload, 1) := by decide +kernel
theorem tX7_areAsFound_37 {d : Nat} {l0 l1 l2 : Option Value} {v2 : Value} {i : Int32} {a : Nat} {m : jmM} {Q : Option Value → jmM → Prop} : AW d 117 37 [l0, l1, l2] [.int i, .ref a, v2] m Q ↔ ((mS m a).1 = 21 ∧ jIx i (mS m a).2) ∧ AW d 117 38 [l0, l1, l2] [.long (mL m a (jx i)), v2] m Q := A_laload hB_X7_areAsFound dX7_areAsFound_37
theorem dX7_areAsFound_38 : decode cX7_areAsFound 38 = .ok (.lcmp, 1) := by decide +kernel
theorem tX7_areAsFound_38 {d : Nat} {l0 l1 l2 : Option Value} {x y : Int64} {m : jmM} {Q : Option Value → jmM → Prop} : AW d 117 38 [l0, l1, l2] [.long y, .long x] m Q ↔ AW d 117 39 [l0, l1, l2] [.int (lg_cmp x y)] m Q := A_lcmp hB_X7_areAsFound dX7_areAsFound_38
theorem dX7_areAsFound_39 : decode cX7_areAsFound 39 = .ok (.ifCond .le 5, 3) := by decide +kernel
theorem tX7_areAsFound_39 {d : Nat} {l0 l1 l2 : Option Value} {x : Int32} {m : jmM} {Q : Option Value → jmM → Prop} : AW d 117 39 [l0, l1, l2] [.int x] m Q ↔ if x ≤ 0 then AW d 117 44 [l0, l1, l2] [] m Q else AW d 117 42 [l0, l1, l2] [] m Q := A_if_le hB_X7_areAsFound dX7_areAsFound_39 (by decide)
theorem dX7_areAsFound_42 : decode cX7_areAsFound 42 = .ok (.iconst 0, 1) := by decide +kernel
theorem tX7_areAsFound_42 {d : Nat} {l0 l1 l2 : Option Value} {m : jmM} {Q : Option Value → jmM → Prop} : AW d 117 42 [l0, l1, l2] [] m Q ↔ AW d 117 43 [l0, l1, l2] [.int 0] m Q := A_iconst hB_X7_areAsFound dX7_areAsFound_42 (by decide)
theorem dX7_areAsFound_43 : decode cX7_areAsFound 43 = .ok (.ireturn, 1) := by decide +kernel
theorem tX7_areAsFound_43 {d : Nat} {l0 l1 l2 : Option Value} {x : Int32} {m : jmM} {Q : Option Value → jmM → Prop} : AW d 117 43 [l0, l1, l2] [.int x] m Q ↔ jBool x ∧ Q (some (.int x)) m := A_zreturn hB_X7_areAsFound dX7_areAsFound_43 hR_X7_areAsFound
theorem dX7_areAsFound_44 : decode cX7_areAsFound 44 = .ok (.iinc 2 1, 3) := by decide +kernel
theorem tX7_areAsFound_44 {d : Nat} {l0 l1 : Option Value} {x : Int32} {m : jmM} {Q : Option Value → jmM → Prop} : AW d 117 44 [l0, l1, some (.int x)] [] m Q ↔ AW d 117 47 [l0, jc1 l1, some (.int (x + 1))] [] m Q := A_iinc hB_X7_areAsFound dX7_areAsFound_44 rfl (Nat.le_of_ble_eq_true rfl) (v := 1) (by decide) rfl
theorem dX7_areAsFound_47 : decode cX7_areAsFound 47 = .ok (.goto (-45), 3) := by decide +kernel
theorem tX7_areAsFound_47 {d : Nat} {l0 l1 l2 : Option Value} {m : jmM} {Q : Option Value → jmM → Prop} : AW d 117 47 [l0, l1, l2] [] m Q ↔ AW d 117 2 [l0, l1, l2] [] m Q := A_goto hB_X7_areAsFound dX7_areAsFound_47 (by decide)
theorem dX7_areAsFound_50 : decode cX7_areAsFound 50 = .ok (.iconst 1, 1) := by decide +kernel
theorem tX7_areAsFound_50 {d : Nat} {l0 l1 l2 : Option Value} {m : jmM} {Q : Option Value → jmM → Prop} : AW d 117 50 [l0, l1, l2] [] m Q ↔ AW d 117 51 [l0, l1, l2] [.int 1] m Q := A_iconst hB_X7_areAsFound dX7_areAsFound_50 (by decide)
theorem dX7_areAsFound_51 : decode cX7_areAsFound 51 = .ok (.ireturn, 1) := by decide +kernel
theorem tX7_areAsFound_51 {d : Nat} {l0 l1 l2 : Option Value} {x : Int32} {m : jmM} {Q : Option Value → jmM → Prop} : AW d 117 51 [l0, l1, l2] [.int x] m Q ↔ jBool x ∧ Q (some (.int x)) m := A_zreturn hB_X7_areAsFound dX7_areAsFound_51 hR_X7_areAsFound
