/-! steps of PulledCrystal$Law, by program -/
theorem hB_X3_init : jB 24 = cX3_init := rfl
theorem hO_X3_init : jO 24 = 3 := rfl
theorem hR_X3_init : jRt 24 = none := rfl
theorem nX3_init (d : Nat) (x0 : Nat) (m : jmM) (Q : Option Value → jmM → Prop) : CC (d + 1) 24 [.ref x0] m Q ↔ AW d 24 0 [some (.ref x0)] [] m Q := CC_body (Nat.le_of_ble_eq_true rfl)
theorem dX3_init_0 : decode cX3_init 0 = .ok (.aload_n 0, 1) := by decide +kernel
theorem tX3_init_0 {d : Nat} {x : Nat} {m : jmM} {Q : Option Value → jmM → Prop} : AW d 24 0 [some (.ref x)] [] m Q ↔ AW d 24 1 [some (.ref x)] [.ref x] m Q := A_aload_n hB_X3_init dX3_init_0 rfl
theorem dX3_init_1 : decode cX3_init 1 = .ok (.invokespecial 3, 3) := by decide +kernel
theorem tX3_init_1 {d : Nat} {l0 : Option Value} {a : Nat} {m : jmM} {Q : Option Value → jmM → Prop} : AW d 24 1 [l0] [.ref a] m Q ↔ AW d 24 4 [l0] [] m Q := A_obj hB_X3_init dX3_init_1 hO_X3_init fS_3_3 (Nat.le_of_ble_eq_true rfl)
theorem dX3_init_4 : decode cX3_init 4 = .ok (.aload_n 0, 1) := by decide +kernel
theorem tX3_init_4 {d : Nat} {x : Nat} {m : jmM} {Q : Option Value → jmM → Prop} : AW d 24 4 [some (.ref x)] [] m Q ↔ AW d 24 5 [some (.ref x)] [.ref x] m Q := A_aload_n hB_X3_init dX3_init_4 rfl
theorem dX3_init_5 : decode cX3_init 5 = .ok (.sipush 400, 3) := by decide +kernel
theorem tX3_init_5 {d : Nat} {l0 : Option Value} {v0 : Value} {m : jmM} {Q : Option Value → jmM → Prop} : AW d 24 5 [l0] [v0] m Q ↔ AW d 24 8 [l0] [.int 400, v0] m Q := A_sipush hB_X3_init dX3_init_5 rfl
theorem dX3_init_8 : decode cX3_init 8 = .ok (.newarray .int, 2) := by decide +kernel
theorem tX3_init_8 {d : Nat} {l0 : Option Value} {v1 : Value} {x : Int32} {m : jmM} {Q : Option Value → jmM → Prop} : AW d 24 8 [l0] [.int x, v1] m Q ↔ (0 ≤ x.toInt ∧ x.toInt ≤ 100000) ∧ AW d 24 10 [l0] [.ref (mN m), v1] (jNew m 20 (jx x)) Q := A_newarray hB_X3_init dX3_init_8 rfl
theorem dX3_init_10 : decode cX3_init 10 = .ok (.putfield 9, 3) := by decide +kernel
theorem tX3_init_10 {d : Nat} {l0 : Option Value} {x a : Nat} {m : jmM} {Q : Option Value → jmM → Prop} : AW d 24 10 [l0] [.ref x, .ref a] m Q ↔ (mS m a).1 = 3 ∧ AW d 24 13 [l0] [] (cR m a (jup (mR m a) 0 (some x))) Q := A_putR hB_X3_init dX3_init_10 hO_X3_init fF_3_9 rfl (fun _ => ⟨rfl, rfl⟩)
theorem tX3_init_10q {d : Nat} {l0 : Option Value} {x : Option Nat} {a : Nat} {m : jmM} {Q : Option Value → jmM → Prop} : AW d 24 10 [l0] [va_rf x, .ref a] m Q ↔ (mS m a).1 = 3 ∧ AW d 24 13 [l0] [] (cR m a (jup (mR m a) 0 x)) Q := A_putQ hB_X3_init dX3_init_10 hO_X3_init fF_3_9 rfl (fun _ => ⟨rfl, rfl⟩)
theorem tX3_init_10n {d : Nat} {l0 : Option Value} {a : Nat} {m : jmM} {Q : Option Value → jmM → Prop} : AW d 24 10 [l0] [.null, .ref a] m Q ↔ (mS m a).1 = 3 ∧ AW d 24 13 [l0] [] (cR m a (jup (mR m a) 0 none)) Q := A_putQ (x := none) hB_X3_init dX3_init_10 hO_X3_init fF_3_9 rfl (fun _ => ⟨rfl, rfl⟩)
theorem dX3_init_13 : decode cX3_init 13 = .ok (.aload_n 0, 1) := by decide +kernel
theorem tX3_init_13 {d : Nat} {x : Nat} {m : jmM} {Q : Option Value → jmM → Prop} : AW d 24 13 [some (.ref x)] [] m Q ↔ AW d 24 14 [some (.ref x)] [.ref x] m Q := A_aload_n hB_X3_init dX3_init_13 rfl
theorem dX3_init_14 : decode cX3_init 14 = .ok (.iconst 0, 1) := by decide +kernel
theorem tX3_init_14 {d : Nat} {l0 : Option Value} {v0 : Value} {m : jmM} {Q : Option Value → jmM → Prop} : AW d 24 14 [l0] [v0] m Q ↔ AW d 24 15 [l0] [.int 0, v0] m Q := A_iconst hB_X3_init dX3_init_14 (by decide)
theorem dX3_init_15 : decode cX3_init 15 = .ok (.putfield 15, 3) := by decide +kernel
theorem tX3_init_15 {d : Nat} {l0 : Option Value} {x : Int32} {a : Nat} {m : jmM} {Q : Option Value → jmM → Prop} : AW d 24 15 [l0] [.int x, .ref a] m Q ↔ (mS m a).1 = 3 ∧ AW d 24 18 [l0] [] (cI m a (jup (mI m a) 1 x)) Q := A_putI hB_X3_init dX3_init_15 hO_X3_init fF_3_15 rfl (fun h => Bool.noConfusion h)
theorem dX3_init_18 : decode cX3_init 18 = .ok (.aload_n 0, 1) := by decide +kernel
theorem tX3_init_18 {d : Nat} {x : Nat} {m : jmM} {Q : Option Value → jmM → Prop} : AW d 24 18 [some (.ref x)] [] m Q ↔ AW d 24 19 [some (.ref x)] [.ref x] m Q := A_aload_n hB_X3_init dX3_init_18 rfl
theorem dX3_init_19 : decode cX3_init 19 = .ok (.bipush 12, 2) := by decide +kernel
theorem tX3_init_19 {d : Nat} {l0 : Option Value} {v0 : Value} {m : jmM} {Q : Option Value → jmM → Prop} : AW d 24 19 [l0] [v0] m Q ↔ AW d 24 21 [l0] [.int 12, v0] m Q := A_bipush hB_X3_init dX3_init_19 rfl
theorem dX3_init_21 : decode cX3_init 21 = .ok (.newarray .int, 2) := by decide +kernel
theorem tX3_init_21 {d : Nat} {l0 : Option Value} {v1 : Value} {x : Int32} {m : jmM} {Q : Option Value → jmM → Prop} : AW d 24 21 [l0] [.int x, v1] m Q ↔ (0 ≤ x.toInt ∧ x.toInt ≤ 100000) ∧ AW d 24 23 [l0] [.ref (mN m), v1] (jNew m 20 (jx x)) Q := A_newarray hB_X3_init dX3_init_21 rfl
theorem dX3_init_23 : decode cX3_init 23 = .ok (.putfield 19, 3) := by decide +kernel
theorem tX3_init_23 {d : Nat} {l0 : Option Value} {x a : Nat} {m : jmM} {Q : Option Value → jmM → Prop} : AW d 24 23 [l0] [.ref x, .ref a] m Q ↔ (mS m a).1 = 3 ∧ AW d 24 26 [l0] [] (cR m a (jup (mR m a) 2 (some x))) Q := A_putR hB_X3_init dX3_init_23 hO_X3_init fF_3_19 rfl (fun _ => ⟨rfl, rfl⟩)
theorem tX3_init_23q {d : Nat} {l0 : Option Value} {x : Option Nat} {a : Nat} {m : jmM} {Q : Option Value → jmM → Prop} : AW d 24 23 [l0] [va_rf x, .ref a] m Q ↔ (mS m a).1 = 3 ∧ AW d 24 26 [l0] [] (cR m a (jup (mR m a) 2 x)) Q := A_putQ hB_X3_init dX3_init_23 hO_X3_init fF_3_19 rfl (fun _ => ⟨rfl, rfl⟩)
theorem tX3_init_23n {d : Nat} {l0 : Option Value} {a : Nat} {m : jmM} {Q : Option Value → jmM → Prop} : AW d 24 23 [l0] [.null, .ref a] m Q ↔ (mS m a).1 = 3 ∧ AW d 24 26 [l0] [] (cR m a (jup (mR m a) 2 none)) Q := A_putQ (x := none) hB_X3_init dX3_init_23 hO_X3_init fF_3_19 rfl (fun _ => ⟨rfl, rfl⟩)
theorem dX3_init_26 : decode cX3_init 26 = .ok (.aload_n 0, 1) := by decide +kernel
theorem tX3_init_26 {d : Nat} {x : Nat} {m : jmM} {Q : Option Value → jmM → Prop} : AW d 24 26 [some (.ref x)] [] m Q ↔ AW d 24 27 [some (.ref x)] [.ref x] m Q := A_aload_n hB_X3_init dX3_init_26 rfl
theorem dX3_init_27 : decode cX3_init 27 = .ok (.bipush 12, 2) := by decide +kernel
theorem tX3_init_27 {d : Nat} {l0 : Option Value} {v0 : Value} {m : jmM} {Q : Option Value → jmM → Prop} : AW d 24 27 [l0] [v0] m Q ↔ AW d 24 29 [l0] [.int 12, v0] m Q := A_bipush hB_X3_init dX3_init_27 rfl
theorem dX3_init_29 : decode cX3_init 29 = .ok (.newarray .int, 2) := by decide +kernel
theorem tX3_init_29 {d : Nat} {l0 : Option Value} {v1 : Value} {x : Int32} {m : jmM} {Q : Option Value → jmM → Prop} : AW d 24 29 [l0] [.int x, v1] m Q ↔ (0 ≤ x.toInt ∧ x.toInt ≤ 100000) ∧ AW d 24 31 [l0] [.ref (mN m), v1] (jNew m 20 (jx x)) Q := A_newarray hB_X3_init dX3_init_29 rfl
theorem dX3_init_31 : decode cX3_init 31 = .ok (.putfield 22, 3) := by decide +kernel
theorem tX3_init_31 {d : Nat} {l0 : Option Value} {x a : Nat} {m : jmM} {Q : Option Value → jmM → Prop} : AW d 24 31 [l0] [.ref x, .ref a] m Q ↔ (mS m a).1 = 3 ∧ AW d 24 34 [l0] [] (cR m a (jup (mR m a) 3 (some x))) Q := A_putR hB_X3_init dX3_init_31 hO_X3_init fF_3_22 rfl (fun _ => ⟨rfl, rfl⟩)
theorem tX3_init_31q {d : Nat} {l0 : Option Value} {x : Option Nat} {a : Nat} {m : jmM} {Q : Option Value → jmM → Prop} : AW d 24 31 [l0] [va_rf x, .ref a] m Q ↔ (mS m a).1 = 3 ∧ AW d 24 34 [l0] [] (cR m a (jup (mR m a) 3 x)) Q := A_putQ hB_X3_init dX3_init_31 hO_X3_init fF_3_22 rfl (fun _ => ⟨rfl, rfl⟩)
theorem tX3_init_31n {d : Nat} {l0 : Option Value} {a : Nat} {m : jmM} {Q : Option Value → jmM → Prop} : AW d 24 31 [l0] [.null, .ref a] m Q ↔ (mS m a).1 = 3 ∧ AW d 24 34 [l0] [] (cR m a (jup (mR m a) 3 none)) Q := A_putQ (x := none) hB_X3_init dX3_init_31 hO_X3_init fF_3_22 rfl (fun _ => ⟨rfl, rfl⟩)
theorem dX3_init_34 : decode cX3_init 34 = .ok (.aload_n 0, 1) := by decide +kernel
theorem tX3_init_34 {d : Nat} {x : Nat} {m : jmM} {Q : Option Value → jmM → Prop} : AW d 24 34 [some (.ref x)] [] m Q ↔ AW d 24 35 [some (.ref x)] [.ref x] m Q := A_aload_n hB_X3_init dX3_init_34 rfl
theorem dX3_init_35 : decode cX3_init 35 = .ok (.bipush 12, 2) := by decide +kernel
theorem tX3_init_35 {d : Nat} {l0 : Option Value} {v0 : Value} {m : jmM} {Q : Option Value → jmM → Prop} : AW d 24 35 [l0] [v0] m Q ↔ AW d 24 37 [l0] [.int 12, v0] m Q := A_bipush hB_X3_init dX3_init_35 rfl
theorem dX3_init_37 : decode cX3_init 37 = .ok (.newarray .int, 2) := by decide +kernel
theorem tX3_init_37 {d : Nat} {l0 : Option Value} {v1 : Value} {x : Int32} {m : jmM} {Q : Option Value → jmM → Prop} : AW d 24 37 [l0] [.int x, v1] m Q ↔ (0 ≤ x.toInt ∧ x.toInt ≤ 100000) ∧ AW d 24 39 [l0] [.ref (mN m), v1] (jNew m 20 (jx x)) Q := A_newarray hB_X3_init dX3_init_37 rfl
theorem dX3_init_39 : decode cX3_init 39 = .ok (.putfield 25, 3) := by decide +kernel
theorem tX3_init_39 {d : Nat} {l0 : Option Value} {x a : Nat} {m : jmM} {Q : Option Value → jmM → Prop} : AW d 24 39 [l0] [.ref x, .ref a] m Q ↔ (mS m a).1 = 3 ∧ AW d 24 42 [l0] [] (cR m a (jup (mR m a) 4 (some x))) Q := A_putR hB_X3_init dX3_init_39 hO_X3_init fF_3_25 rfl (fun _ => ⟨rfl, rfl⟩)
theorem tX3_init_39q {d : Nat} {l0 : Option Value} {x : Option Nat} {a : Nat} {m : jmM} {Q : Option Value → jmM → Prop} : AW d 24 39 [l0] [va_rf x, .ref a] m Q ↔ (mS m a).1 = 3 ∧ AW d 24 42 [l0] [] (cR m a (jup (mR m a) 4 x)) Q := A_putQ hB_X3_init dX3_init_39 hO_X3_init fF_3_25 rfl (fun _ => ⟨rfl, rfl⟩)
theorem tX3_init_39n {d : Nat} {l0 : Option Value} {a : Nat} {m : jmM} {Q : Option Value → jmM → Prop} : AW d 24 39 [l0] [.null, .ref a] m Q ↔ (mS m a).1 = 3 ∧ AW d 24 42 [l0] [] (cR m a (jup (mR m a) 4 none)) Q := A_putQ (x := none) hB_X3_init dX3_init_39 hO_X3_init fF_3_25 rfl (fun _ => ⟨rfl, rfl⟩)
theorem dX3_init_42 : decode cX3_init 42 = .ok (.aload_n 0, 1) := by decide +kernel
theorem tX3_init_42 {d : Nat} {x : Nat} {m : jmM} {Q : Option Value → jmM → Prop} : AW d 24 42 [some (.ref x)] [] m Q ↔ AW d 24 43 [some (.ref x)] [.ref x] m Q := A_aload_n hB_X3_init dX3_init_42 rfl
theorem dX3_init_43 : decode cX3_init 43 = .ok (.bipush 12, 2) := by decide +kernel
theorem tX3_init_43 {d : Nat} {l0 : Option Value} {v0 : Value} {m : jmM} {Q : Option Value → jmM → Prop} : AW d 24 43 [l0] [v0] m Q ↔ AW d 24 45 [l0] [.int 12, v0] m Q := A_bipush hB_X3_init dX3_init_43 rfl
theorem dX3_init_45 : decode cX3_init 45 = .ok (.newarray .int, 2) := by decide +kernel
theorem tX3_init_45 {d : Nat} {l0 : Option Value} {v1 : Value} {x : Int32} {m : jmM} {Q : Option Value → jmM → Prop} : AW d 24 45 [l0] [.int x, v1] m Q ↔ (0 ≤ x.toInt ∧ x.toInt ≤ 100000) ∧ AW d 24 47 [l0] [.ref (mN m), v1] (jNew m 20 (jx x)) Q := A_newarray hB_X3_init dX3_init_45 rfl
theorem dX3_init_47 : decode cX3_init 47 = .ok (.putfield 28, 3) := by decide +kernel
theorem tX3_init_47 {d : Nat} {l0 : Option Value} {x a : Nat} {m : jmM} {Q : Option Value → jmM → Prop} : AW d 24 47 [l0] [.ref x, .ref a] m Q ↔ (mS m a).1 = 3 ∧ AW d 24 50 [l0] [] (cR m a (jup (mR m a) 5 (some x))) Q := A_putR hB_X3_init dX3_init_47 hO_X3_init fF_3_28 rfl (fun _ => ⟨rfl, rfl⟩)
theorem tX3_init_47q {d : Nat} {l0 : Option Value} {x : Option Nat} {a : Nat} {m : jmM} {Q : Option Value → jmM → Prop} : AW d 24 47 [l0] [va_rf x, .ref a] m Q ↔ (mS m a).1 = 3 ∧ AW d 24 50 [l0] [] (cR m a (jup (mR m a) 5 x)) Q := A_putQ hB_X3_init dX3_init_47 hO_X3_init fF_3_28 rfl (fun _ => ⟨rfl, rfl⟩)
theorem tX3_init_47n {d : Nat} {l0 : Option Value} {a : Nat} {m : jmM} {Q : Option Value → jmM → Prop} : AW d 24 47 [l0] [.null, .ref a] m Q ↔ (mS m a).1 = 3 ∧ AW d 24 50 [l0] [] (cR m a (jup (mR m a) 5 none)) Q := A_putQ (x := none) hB_X3_init dX3_init_47 hO_X3_init fF_3_28 rfl (fun _ => ⟨rfl, rfl⟩)
theorem dX3_init_50 : decode cX3_init 50 = .ok (.aload_n 0, 1) := by decide +kernel
theorem tX3_init_50 {d : Nat} {x : Nat} {m : jmM} {Q : Option Value → jmM → Prop} : AW d 24 50 [some (.ref x)] [] m Q ↔ AW d 24 51 [some (.ref x)] [.ref x] m Q := A_aload_n hB_X3_init dX3_init_50 rfl
theorem dX3_init_51 : decode cX3_init 51 = .ok (.iconst 0, 1) := by decide +kernel
theorem tX3_init_51 {d : Nat} {l0 : Option Value} {v0 : Value} {m : jmM} {Q : Option Value → jmM → Prop} : AW d 24 51 [l0] [v0] m Q ↔ AW d 24 52 [l0] [.int 0, v0] m Q := A_iconst hB_X3_init dX3_init_51 (by decide)
theorem dX3_init_52 : decode cX3_init 52 = .ok (.putfield 31, 3) := by decide +kernel
theorem tX3_init_52 {d : Nat} {l0 : Option Value} {x : Int32} {a : Nat} {m : jmM} {Q : Option Value → jmM → Prop} : AW d 24 52 [l0] [.int x, .ref a] m Q ↔ (mS m a).1 = 3 ∧ AW d 24 55 [l0] [] (cI m a (jup (mI m a) 6 x)) Q := A_putI hB_X3_init dX3_init_52 hO_X3_init fF_3_31 rfl (fun h => Bool.noConfusion h)
theorem dX3_init_55 : decode cX3_init 55 = .ok (.aload_n 0, 1) := by decide +kernel
theorem tX3_init_55 {d : Nat} {x : Nat} {m : jmM} {Q : Option Value → jmM → Prop} : AW d 24 55 [some (.ref x)] [] m Q ↔ AW d 24 56 [some (.ref x)] [.ref x] m Q := A_aload_n hB_X3_init dX3_init_55 rfl
theorem dX3_init_56 : decode cX3_init 56 = .ok (.iconst (-1), 1) := by decide +kernel
theorem tX3_init_56 {d : Nat} {l0 : Option Value} {v0 : Value} {m : jmM} {Q : Option Value → jmM → Prop} : AW d 24 56 [l0] [v0] m Q ↔ AW d 24 57 [l0] [.int (-1), v0] m Q := A_iconst hB_X3_init dX3_init_56 (by decide)
theorem dX3_init_57 : decode cX3_init 57 = .ok (.putfield 34, 3) := by decide +kernel
theorem tX3_init_57 {d : Nat} {l0 : Option Value} {x : Int32} {a : Nat} {m : jmM} {Q : Option Value → jmM → Prop} : AW d 24 57 [l0] [.int x, .ref a] m Q ↔ (mS m a).1 = 3 ∧ AW d 24 60 [l0] [] (cI m a (jup (mI m a) 7 x)) Q := A_putI hB_X3_init dX3_init_57 hO_X3_init fF_3_34 rfl (fun h => Bool.noConfusion h)
theorem dX3_init_60 : decode cX3_init 60 = .ok (.aload_n 0, 1) := by decide +kernel
theorem tX3_init_60 {d : Nat} {x : Nat} {m : jmM} {Q : Option Value → jmM → Prop} : AW d 24 60 [some (.ref x)] [] m Q ↔ AW d 24 61 [some (.ref x)] [.ref x] m Q := A_aload_n hB_X3_init dX3_init_60 rfl
theorem dX3_init_61 : decode cX3_init 61 = .ok (.iconst (-1), 1) := by decide +kernel
theorem tX3_init_61 {d : Nat} {l0 : Option Value} {v0 : Value} {m : jmM} {Q : Option Value → jmM → Prop} : AW d 24 61 [l0] [v0] m Q ↔ AW d 24 62 [l0] [.int (-1), v0] m Q := A_iconst hB_X3_init dX3_init_61 (by decide)
theorem dX3_init_62 : decode cX3_init 62 = .ok (.putfield 37, 3) := by decide +kernel
theorem tX3_init_62 {d : Nat} {l0 : Option Value} {x : Int32} {a : Nat} {m : jmM} {Q : Option Value → jmM → Prop} : AW d 24 62 [l0] [.int x, .ref a] m Q ↔ (mS m a).1 = 3 ∧ AW d 24 65 [l0] [] (cI m a (jup (mI m a) 8 x)) Q := A_putI hB_X3_init dX3_init_62 hO_X3_init fF_3_37 rfl (fun h => Bool.noConfusion h)
theorem dX3_init_65 : decode cX3_init 65 = .ok (.aload_n 0, 1) := by decide +kernel
theorem tX3_init_65 {d : Nat} {x : Nat} {m : jmM} {Q : Option Value → jmM → Prop} : AW d 24 65 [some (.ref x)] [] m Q ↔ AW d 24 66 [some (.ref x)] [.ref x] m Q := A_aload_n hB_X3_init dX3_init_65 rfl
theorem dX3_init_66 : decode cX3_init 66 = .ok (.iconst (-1), 1) := by decide +kernel
theorem tX3_init_66 {d : Nat} {l0 : Option Value} {v0 : Value} {m : jmM} {Q : Option Value → jmM → Prop} : AW d 24 66 [l0] [v0] m Q ↔ AW d 24 67 [l0] [.int (-1), v0] m Q := A_iconst hB_X3_init dX3_init_66 (by decide)
theorem dX3_init_67 : decode cX3_init 67 = .ok (.putfield 40, 3) := by decide +kernel
theorem tX3_init_67 {d : Nat} {l0 : Option Value} {x : Int32} {a : Nat} {m : jmM} {Q : Option Value → jmM → Prop} : AW d 24 67 [l0] [.int x, .ref a] m Q ↔ (mS m a).1 = 3 ∧ AW d 24 70 [l0] [] (cI m a (jup (mI m a) 9 x)) Q := A_putI hB_X3_init dX3_init_67 hO_X3_init fF_3_40 rfl (fun h => Bool.noConfusion h)
theorem dX3_init_70 : decode cX3_init 70 = .ok (.return_, 1) := by decide +kernel
theorem tX3_init_70 {d : Nat} {l0 : Option Value} {m : jmM} {Q : Option Value → jmM → Prop} : AW d 24 70 [l0] [] m Q ↔ Q none m := A_return hB_X3_init dX3_init_70 hR_X3_init
theorem hB_X3_clear : jB 25 = cX3_clear := rfl
theorem hO_X3_clear : jO 25 = 3 := rfl
theorem hR_X3_clear : jRt 25 = none := rfl
theorem nX3_clear (d : Nat) (x0 : Nat) (m : jmM) (Q : Option Value → jmM → Prop) : CC (d + 1) 25 [.ref x0] m Q ↔ AW d 25 0 [some (.ref x0)] [] m Q := CC_body (Nat.le_of_ble_eq_true rfl)
theorem dX3_clear_0 : decode cX3_clear 0 = .ok (.aload_n 0, 1) := by decide +kernel
theorem tX3_clear_0 {d : Nat} {x : Nat} {m : jmM} {Q : Option Value → jmM → Prop} : AW d 25 0 [some (.ref x)] [] m Q ↔ AW d 25 1 [some (.ref x)] [.ref x] m Q := A_aload_n hB_X3_clear dX3_clear_0 rfl
theorem dX3_clear_1 : decode cX3_clear 1 = .ok (.iconst 0, 1) := by decide +kernel
theorem tX3_clear_1 {d : Nat} {l0 : Option Value} {v0 : Value} {m : jmM} {Q : Option Value → jmM → Prop} : AW d 25 1 [l0] [v0] m Q ↔ AW d 25 2 [l0] [.int 0, v0] m Q := A_iconst hB_X3_clear dX3_clear_1 (by decide)
theorem dX3_clear_2 : decode cX3_clear 2 = .ok (.putfield 15, 3) := by decide +kernel
theorem tX3_clear_2 {d : Nat} {l0 : Option Value} {x : Int32} {a : Nat} {m : jmM} {Q : Option Value → jmM → Prop} : AW d 25 2 [l0] [.int x, .ref a] m Q ↔ (mS m a).1 = 3 ∧ AW d 25 5 [l0] [] (cI m a (jup (mI m a) 1 x)) Q := A_putI hB_X3_clear dX3_clear_2 hO_X3_clear fF_3_15 rfl (fun h => Bool.noConfusion h)
theorem dX3_clear_5 : decode cX3_clear 5 = .ok (.aload_n 0, 1) := by decide +kernel
theorem tX3_clear_5 {d : Nat} {x : Nat} {m : jmM} {Q : Option Value → jmM → Prop} : AW d 25 5 [some (.ref x)] [] m Q ↔ AW d 25 6 [some (.ref x)] [.ref x] m Q := A_aload_n hB_X3_clear dX3_clear_5 rfl
theorem dX3_clear_6 : decode cX3_clear 6 = .ok (.iconst 0, 1) := by decide +kernel
theorem tX3_clear_6 {d : Nat} {l0 : Option Value} {v0 : Value} {m : jmM} {Q : Option Value → jmM → Prop} : AW d 25 6 [l0] [v0] m Q ↔ AW d 25 7 [l0] [.int 0, v0] m Q := A_iconst hB_X3_clear dX3_clear_6 (by decide)
theorem dX3_clear_7 : decode cX3_clear 7 = .ok (.putfield 31, 3) := by decide +kernel
theorem tX3_clear_7 {d : Nat} {l0 : Option Value} {x : Int32} {a : Nat} {m : jmM} {Q : Option Value → jmM → Prop} : AW d 25 7 [l0] [.int x, .ref a] m Q ↔ (mS m a).1 = 3 ∧ AW d 25 10 [l0] [] (cI m a (jup (mI m a) 6 x)) Q := A_putI hB_X3_clear dX3_clear_7 hO_X3_clear fF_3_31 rfl (fun h => Bool.noConfusion h)
theorem dX3_clear_10 : decode cX3_clear 10 = .ok (.aload_n 0, 1) := by decide +kernel
theorem tX3_clear_10 {d : Nat} {x : Nat} {m : jmM} {Q : Option Value → jmM → Prop} : AW d 25 10 [some (.ref x)] [] m Q ↔ AW d 25 11 [some (.ref x)] [.ref x] m Q := A_aload_n hB_X3_clear dX3_clear_10 rfl
theorem dX3_clear_11 : decode cX3_clear 11 = .ok (.iconst (-1), 1) := by decide +kernel
theorem tX3_clear_11 {d : Nat} {l0 : Option Value} {v0 : Value} {m : jmM} {Q : Option Value → jmM → Prop} : AW d 25 11 [l0] [v0] m Q ↔ AW d 25 12 [l0] [.int (-1), v0] m Q := A_iconst hB_X3_clear dX3_clear_11 (by decide)
theorem dX3_clear_12 : decode cX3_clear 12 = .ok (.putfield 34, 3) := by decide +kernel
theorem tX3_clear_12 {d : Nat} {l0 : Option Value} {x : Int32} {a : Nat} {m : jmM} {Q : Option Value → jmM → Prop} : AW d 25 12 [l0] [.int x, .ref a] m Q ↔ (mS m a).1 = 3 ∧ AW d 25 15 [l0] [] (cI m a (jup (mI m a) 7 x)) Q := A_putI hB_X3_clear dX3_clear_12 hO_X3_clear fF_3_34 rfl (fun h => Bool.noConfusion h)
theorem dX3_clear_15 : decode cX3_clear 15 = .ok (.aload_n 0, 1) := by decide +kernel
theorem tX3_clear_15 {d : Nat} {x : Nat} {m : jmM} {Q : Option Value → jmM → Prop} : AW d 25 15 [some (.ref x)] [] m Q ↔ AW d 25 16 [some (.ref x)] [.ref x] m Q := A_aload_n hB_X3_clear dX3_clear_15 rfl
theorem dX3_clear_16 : decode cX3_clear 16 = .ok (.iconst (-1), 1) := by decide +kernel
theorem tX3_clear_16 {d : Nat} {l0 : Option Value} {v0 : Value} {m : jmM} {Q : Option Value → jmM → Prop} : AW d 25 16 [l0] [v0] m Q ↔ AW d 25 17 [l0] [.int (-1), v0] m Q := A_iconst hB_X3_clear dX3_clear_16 (by decide)
theorem dX3_clear_17 : decode cX3_clear 17 = .ok (.putfield 37, 3) := by decide +kernel
theorem tX3_clear_17 {d : Nat} {l0 : Option Value} {x : Int32} {a : Nat} {m : jmM} {Q : Option Value → jmM → Prop} : AW d 25 17 [l0] [.int x, .ref a] m Q ↔ (mS m a).1 = 3 ∧ AW d 25 20 [l0] [] (cI m a (jup (mI m a) 8 x)) Q := A_putI hB_X3_clear dX3_clear_17 hO_X3_clear fF_3_37 rfl (fun h => Bool.noConfusion h)
theorem dX3_clear_20 : decode cX3_clear 20 = .ok (.aload_n 0, 1) := by decide +kernel
theorem tX3_clear_20 {d : Nat} {x : Nat} {m : jmM} {Q : Option Value → jmM → Prop} : AW d 25 20 [some (.ref x)] [] m Q ↔ AW d 25 21 [some (.ref x)] [.ref x] m Q := A_aload_n hB_X3_clear dX3_clear_20 rfl
theorem dX3_clear_21 : decode cX3_clear 21 = .ok (.iconst (-1), 1) := by decide +kernel
theorem tX3_clear_21 {d : Nat} {l0 : Option Value} {v0 : Value} {m : jmM} {Q : Option Value → jmM → Prop} : AW d 25 21 [l0] [v0] m Q ↔ AW d 25 22 [l0] [.int (-1), v0] m Q := A_iconst hB_X3_clear dX3_clear_21 (by decide)
theorem dX3_clear_22 : decode cX3_clear 22 = .ok (.putfield 40, 3) := by decide +kernel
theorem tX3_clear_22 {d : Nat} {l0 : Option Value} {x : Int32} {a : Nat} {m : jmM} {Q : Option Value → jmM → Prop} : AW d 25 22 [l0] [.int x, .ref a] m Q ↔ (mS m a).1 = 3 ∧ AW d 25 25 [l0] [] (cI m a (jup (mI m a) 9 x)) Q := A_putI hB_X3_clear dX3_clear_22 hO_X3_clear fF_3_40 rfl (fun h => Bool.noConfusion h)
theorem dX3_clear_25 : decode cX3_clear 25 = .ok (.return_, 1) := by decide +kernel
theorem tX3_clear_25 {d : Nat} {l0 : Option Value} {m : jmM} {Q : Option Value → jmM → Prop} : AW d 25 25 [l0] [] m Q ↔ Q none m := A_return hB_X3_clear dX3_clear_25 hR_X3_clear
theorem hB_X3_becomeLike : jB 26 = cX3_becomeLike := rfl
theorem hO_X3_becomeLike : jO 26 = 3 := rfl
theorem hR_X3_becomeLike : jRt 26 = none := rfl
theorem nX3_becomeLike (d : Nat) (x0 : Nat) (x1 : Nat) (m : jmM) (Q : Option Value → jmM → Prop) : CC (d + 1) 26 [.ref x0, .ref x1] m Q ↔ AW d 26 0 [some (.ref x0), some (.ref x1)] [] m Q := CC_body (Nat.le_of_ble_eq_true rfl)
theorem dX3_becomeLike_0 : decode cX3_becomeLike 0 = .ok (.aload_n 1, 1) := by decide +kernel
theorem tX3_becomeLike_0 {d : Nat} {l0 : Option Value} {x : Nat} {m : jmM} {Q : Option Value → jmM → Prop} : AW d 26 0 [l0, some (.ref x)] [] m Q ↔ AW d 26 1 [l0, some (.ref x)] [.ref x] m Q := A_aload_n hB_X3_becomeLike dX3_becomeLike_0 rfl
theorem dX3_becomeLike_1 : decode cX3_becomeLike 1 = .ok (.getfield 9, 3) := by decide +kernel
theorem tX3_becomeLike_1 {d : Nat} {l0 l1 : Option Value} {a : Nat} {m : jmM} {Q : Option Value → jmM → Prop} : AW d 26 1 [l0, l1] [.ref a] m Q ↔ (mS m a).1 = 3 ∧ AW d 26 4 [l0, l1] [va_rf (mR m a 0)] m Q := A_getfield (f := fun m a => va_rf (mR m a 0)) hB_X3_becomeLike dX3_becomeLike_1 hO_X3_becomeLike fF_3_9 rfl
theorem dX3_becomeLike_4 : decode cX3_becomeLike 4 = .ok (.iconst 0, 1) := by decide +kernel
theorem tX3_becomeLike_4 {d : Nat} {l0 l1 : Option Value} {v0 : Value} {m : jmM} {Q : Option Value → jmM → Prop} : AW d 26 4 [l0, l1] [v0] m Q ↔ AW d 26 5 [l0, l1] [.int 0, v0] m Q := A_iconst hB_X3_becomeLike dX3_becomeLike_4 (by decide)
theorem dX3_becomeLike_5 : decode cX3_becomeLike 5 = .ok (.aload_n 0, 1) := by decide +kernel
theorem tX3_becomeLike_5 {d : Nat} {l1 : Option Value} {v0 v1 : Value} {x : Nat} {m : jmM} {Q : Option Value → jmM → Prop} : AW d 26 5 [some (.ref x), l1] [v0, v1] m Q ↔ AW d 26 6 [some (.ref x), l1] [.ref x, v0, v1] m Q := A_aload_n hB_X3_becomeLike dX3_becomeLike_5 rfl
theorem dX3_becomeLike_6 : decode cX3_becomeLike 6 = .ok (.getfield 9, 3) := by decide +kernel
theorem tX3_becomeLike_6 {d : Nat} {l0 l1 : Option Value} {v1 v2 : Value} {a : Nat} {m : jmM} {Q : Option Value → jmM → Prop} : AW d 26 6 [l0, l1] [.ref a, v1, v2] m Q ↔ (mS m a).1 = 3 ∧ AW d 26 9 [l0, l1] [va_rf (mR m a 0), v1, v2] m Q := A_getfield (f := fun m a => va_rf (mR m a 0)) hB_X3_becomeLike dX3_becomeLike_6 hO_X3_becomeLike fF_3_9 rfl
theorem dX3_becomeLike_9 : decode cX3_becomeLike 9 = .ok (.iconst 0, 1) := by decide +kernel
theorem tX3_becomeLike_9 {d : Nat} {l0 l1 : Option Value} {v0 v1 v2 : Value} {m : jmM} {Q : Option Value → jmM → Prop} : AW d 26 9 [l0, l1] [v0, v1, v2] m Q ↔ AW d 26 10 [l0, l1] [.int 0, v0, v1, v2] m Q := A_iconst hB_X3_becomeLike dX3_becomeLike_9 (by decide)
theorem dX3_becomeLike_10 : decode cX3_becomeLike 10 = .ok (.aload_n 0, 1) := by decide +kernel
theorem tX3_becomeLike_10 {d : Nat} {l1 : Option Value} {v0 v1 v2 v3 : Value} {x : Nat} {m : jmM} {Q : Option Value → jmM → Prop} : AW d 26 10 [some (.ref x), l1] [v0, v1, v2, v3] m Q ↔ AW d 26 11 [some (.ref x), l1] [.ref x, v0, v1, v2, v3] m Q := A_aload_n hB_X3_becomeLike dX3_becomeLike_10 rfl
theorem dX3_becomeLike_11 : decode cX3_becomeLike 11 = .ok (.getfield 9, 3) := by decide +kernel
theorem tX3_becomeLike_11 {d : Nat} {l0 l1 : Option Value} {v1 v2 v3 v4 : Value} {a : Nat} {m : jmM} {Q : Option Value → jmM → Prop} : AW d 26 11 [l0, l1] [.ref a, v1, v2, v3, v4] m Q ↔ (mS m a).1 = 3 ∧ AW d 26 14 [l0, l1] [va_rf (mR m a 0), v1, v2, v3, v4] m Q := A_getfield (f := fun m a => va_rf (mR m a 0)) hB_X3_becomeLike dX3_becomeLike_11 hO_X3_becomeLike fF_3_9 rfl
theorem dX3_becomeLike_14 : decode cX3_becomeLike 14 = .ok (.arraylength, 1) := by decide +kernel
theorem tX3_becomeLike_14 {d : Nat} {l0 l1 : Option Value} {v1 v2 v3 v4 : Value} {a : Nat} {m : jmM} {Q : Option Value → jmM → Prop} : AW d 26 14 [l0, l1] [.ref a, v1, v2, v3, v4] m Q ↔ ((20 ≤ (mS m a).1 ∧ (mS m a).1 ≤ 26) ∨ a = jScr) ∧ AW d 26 15 [l0, l1] [.int (nI (mS m a).2), v1, v2, v3, v4] m Q := A_arraylength hB_X3_becomeLike dX3_becomeLike_14
theorem dX3_becomeLike_15 : decode cX3_becomeLike 15 = .ok (.invokestatic 43, 3) := by decide +kernel
theorem tX3_becomeLike_15 {d : Nat} {l0 l1 : Option Value} {n x y : Int32} {a b : Nat} {m : jmM} {Q : Option Value → jmM → Prop} : AW d 26 15 [l0, l1] [.int n, .int y, .ref b, .int x, .ref a] m Q ↔ (0 ≤ n.toInt ∧ 0 ≤ y.toInt ∧ 0 ≤ x.toInt ∧ x.toInt + n.toInt ≤ ((mS m a).2 : Int) ∧ y.toInt + n.toInt ≤ ((mS m b).2 : Int) ∧ (mS m a).1 = (mS m b).1 ∧ ((mS m b).1 = 20 ∨ (mS m b).1 = 21)) ∧ AW d 26 18 [l0, l1] [] (if (mS m b).1 = 20 then cI m b (va_cpy (mI m a) (mI m b) (jx x) (jx y) (jx n)) else cL m b (va_cpy (mL m a) (mL m b) (jx x) (jx y) (jx n))) Q := A_copy hB_X3_becomeLike dX3_becomeLike_15 hO_X3_becomeLike fS_3_43 (Nat.le_of_ble_eq_true rfl)
theorem dX3_becomeLike_18 : decode cX3_becomeLike 18 = .ok (.aload_n 1, 1) := by decide +kernel
theorem tX3_becomeLike_18 {d : Nat} {l0 : Option Value} {x : Nat} {m : jmM} {Q : Option Value → jmM → Prop} : AW d 26 18 [l0, some (.ref x)] [] m Q ↔ AW d 26 19 [l0, some (.ref x)] [.ref x] m Q := A_aload_n hB_X3_becomeLike dX3_becomeLike_18 rfl
theorem dX3_becomeLike_19 : decode cX3_becomeLike 19 = .ok (.getfield 19, 3) := by decide +kernel
theorem tX3_becomeLike_19 {d : Nat} {l0 l1 : Option Value} {a : Nat} {m : jmM} {Q : Option Value → jmM → Prop} : AW d 26 19 [l0, l1] [.ref a] m Q ↔ (mS m a).1 = 3 ∧ AW d 26 22 [l0, l1] [va_rf (mR m a 2)] m Q := A_getfield (f := fun m a => va_rf (mR m a 2)) hB_X3_becomeLike dX3_becomeLike_19 hO_X3_becomeLike fF_3_19 rfl
theorem dX3_becomeLike_22 : decode cX3_becomeLike 22 = .ok (.iconst 0, 1) := by decide +kernel
theorem tX3_becomeLike_22 {d : Nat} {l0 l1 : Option Value} {v0 : Value} {m : jmM} {Q : Option Value → jmM → Prop} : AW d 26 22 [l0, l1] [v0] m Q ↔ AW d 26 23 [l0, l1] [.int 0, v0] m Q := A_iconst hB_X3_becomeLike dX3_becomeLike_22 (by decide)
theorem dX3_becomeLike_23 : decode cX3_becomeLike 23 = .ok (.aload_n 0, 1) := by decide +kernel
theorem tX3_becomeLike_23 {d : Nat} {l1 : Option Value} {v0 v1 : Value} {x : Nat} {m : jmM} {Q : Option Value → jmM → Prop} : AW d 26 23 [some (.ref x), l1] [v0, v1] m Q ↔ AW d 26 24 [some (.ref x), l1] [.ref x, v0, v1] m Q := A_aload_n hB_X3_becomeLike dX3_becomeLike_23 rfl
theorem dX3_becomeLike_24 : decode cX3_becomeLike 24 = .ok (.getfield 19, 3) := by decide +kernel
theorem tX3_becomeLike_24 {d : Nat} {l0 l1 : Option Value} {v1 v2 : Value} {a : Nat} {m : jmM} {Q : Option Value → jmM → Prop} : AW d 26 24 [l0, l1] [.ref a, v1, v2] m Q ↔ (mS m a).1 = 3 ∧ AW d 26 27 [l0, l1] [va_rf (mR m a 2), v1, v2] m Q := A_getfield (f := fun m a => va_rf (mR m a 2)) hB_X3_becomeLike dX3_becomeLike_24 hO_X3_becomeLike fF_3_19 rfl
theorem dX3_becomeLike_27 : decode cX3_becomeLike 27 = .ok (.iconst 0, 1) := by decide +kernel
theorem tX3_becomeLike_27 {d : Nat} {l0 l1 : Option Value} {v0 v1 v2 : Value} {m : jmM} {Q : Option Value → jmM → Prop} : AW d 26 27 [l0, l1] [v0, v1, v2] m Q ↔ AW d 26 28 [l0, l1] [.int 0, v0, v1, v2] m Q := A_iconst hB_X3_becomeLike dX3_becomeLike_27 (by decide)
theorem dX3_becomeLike_28 : decode cX3_becomeLike 28 = .ok (.aload_n 0, 1) := by decide +kernel
theorem tX3_becomeLike_28 {d : Nat} {l1 : Option Value} {v0 v1 v2 v3 : Value} {x : Nat} {m : jmM} {Q : Option Value → jmM → Prop} : AW d 26 28 [some (.ref x), l1] [v0, v1, v2, v3] m Q ↔ AW d 26 29 [some (.ref x), l1] [.ref x, v0, v1, v2, v3] m Q := A_aload_n hB_X3_becomeLike dX3_becomeLike_28 rfl
theorem dX3_becomeLike_29 : decode cX3_becomeLike 29 = .ok (.getfield 19, 3) := by decide +kernel
theorem tX3_becomeLike_29 {d : Nat} {l0 l1 : Option Value} {v1 v2 v3 v4 : Value} {a : Nat} {m : jmM} {Q : Option Value → jmM → Prop} : AW d 26 29 [l0, l1] [.ref a, v1, v2, v3, v4] m Q ↔ (mS m a).1 = 3 ∧ AW d 26 32 [l0, l1] [va_rf (mR m a 2), v1, v2, v3, v4] m Q := A_getfield (f := fun m a => va_rf (mR m a 2)) hB_X3_becomeLike dX3_becomeLike_29 hO_X3_becomeLike fF_3_19 rfl
theorem dX3_becomeLike_32 : decode cX3_becomeLike 32 = .ok (.arraylength, 1) := by decide +kernel
theorem tX3_becomeLike_32 {d : Nat} {l0 l1 : Option Value} {v1 v2 v3 v4 : Value} {a : Nat} {m : jmM} {Q : Option Value → jmM → Prop} : AW d 26 32 [l0, l1] [.ref a, v1, v2, v3, v4] m Q ↔ ((20 ≤ (mS m a).1 ∧ (mS m a).1 ≤ 26) ∨ a = jScr) ∧ AW d 26 33 [l0, l1] [.int (nI (mS m a).2), v1, v2, v3, v4] m Q := A_arraylength hB_X3_becomeLike dX3_becomeLike_32
theorem dX3_becomeLike_33 : decode cX3_becomeLike 33 = .ok (.invokestatic 43, 3) := by decide +kernel
theorem tX3_becomeLike_33 {d : Nat} {l0 l1 : Option Value} {n x y : Int32} {a b : Nat} {m : jmM} {Q : Option Value → jmM → Prop} : AW d 26 33 [l0, l1] [.int n, .int y, .ref b, .int x, .ref a] m Q ↔ (0 ≤ n.toInt ∧ 0 ≤ y.toInt ∧ 0 ≤ x.toInt ∧ x.toInt + n.toInt ≤ ((mS m a).2 : Int) ∧ y.toInt + n.toInt ≤ ((mS m b).2 : Int) ∧ (mS m a).1 = (mS m b).1 ∧ ((mS m b).1 = 20 ∨ (mS m b).1 = 21)) ∧ AW d 26 36 [l0, l1] [] (if (mS m b).1 = 20 then cI m b (va_cpy (mI m a) (mI m b) (jx x) (jx y) (jx n)) else cL m b (va_cpy (mL m a) (mL m b) (jx x) (jx y) (jx n))) Q := A_copy hB_X3_becomeLike dX3_becomeLike_33 hO_X3_becomeLike fS_3_43 (Nat.le_of_ble_eq_true rfl)
theorem dX3_becomeLike_36 : decode cX3_becomeLike 36 = .ok (.aload_n 1, 1) := by decide +kernel
theorem tX3_becomeLike_36 {d : Nat} {l0 : Option Value} {x : Nat} {m : jmM} {Q : Option Value → jmM → Prop} : AW d 26 36 [l0, some (.ref x)] [] m Q ↔ AW d 26 37 [l0, some (.ref x)] [.ref x] m Q := A_aload_n hB_X3_becomeLike dX3_becomeLike_36 rfl
theorem dX3_becomeLike_37 : decode cX3_becomeLike 37 = .ok (.getfield 22, 3) := by decide +kernel
theorem tX3_becomeLike_37 {d : Nat} {l0 l1 : Option Value} {a : Nat} {m : jmM} {Q : Option Value → jmM → Prop} : AW d 26 37 [l0, l1] [.ref a] m Q ↔ (mS m a).1 = 3 ∧ AW d 26 40 [l0, l1] [va_rf (mR m a 3)] m Q := A_getfield (f := fun m a => va_rf (mR m a 3)) hB_X3_becomeLike dX3_becomeLike_37 hO_X3_becomeLike fF_3_22 rfl
theorem dX3_becomeLike_40 : decode cX3_becomeLike 40 = .ok (.iconst 0, 1) := by decide +kernel
theorem tX3_becomeLike_40 {d : Nat} {l0 l1 : Option Value} {v0 : Value} {m : jmM} {Q : Option Value → jmM → Prop} : AW d 26 40 [l0, l1] [v0] m Q ↔ AW d 26 41 [l0, l1] [.int 0, v0] m Q := A_iconst hB_X3_becomeLike dX3_becomeLike_40 (by decide)
theorem dX3_becomeLike_41 : decode cX3_becomeLike 41 = .ok (.aload_n 0, 1) := by decide +kernel
theorem tX3_becomeLike_41 {d : Nat} {l1 : Option Value} {v0 v1 : Value} {x : Nat} {m : jmM} {Q : Option Value → jmM → Prop} : AW d 26 41 [some (.ref x), l1] [v0, v1] m Q ↔ AW d 26 42 [some (.ref x), l1] [.ref x, v0, v1] m Q := A_aload_n hB_X3_becomeLike dX3_becomeLike_41 rfl
theorem dX3_becomeLike_42 : decode cX3_becomeLike 42 = .ok (.getfield 22, 3) := by decide +kernel
theorem tX3_becomeLike_42 {d : Nat} {l0 l1 : Option Value} {v1 v2 : Value} {a : Nat} {m : jmM} {Q : Option Value → jmM → Prop} : AW d 26 42 [l0, l1] [.ref a, v1, v2] m Q ↔ (mS m a).1 = 3 ∧ AW d 26 45 [l0, l1] [va_rf (mR m a 3), v1, v2] m Q := A_getfield (f := fun m a => va_rf (mR m a 3)) hB_X3_becomeLike dX3_becomeLike_42 hO_X3_becomeLike fF_3_22 rfl
theorem dX3_becomeLike_45 : decode cX3_becomeLike 45 = .ok (.iconst 0, 1) := by decide +kernel
theorem tX3_becomeLike_45 {d : Nat} {l0 l1 : Option Value} {v0 v1 v2 : Value} {m : jmM} {Q : Option Value → jmM → Prop} : AW d 26 45 [l0, l1] [v0, v1, v2] m Q ↔ AW d 26 46 [l0, l1] [.int 0, v0, v1, v2] m Q := A_iconst hB_X3_becomeLike dX3_becomeLike_45 (by decide)
theorem dX3_becomeLike_46 : decode cX3_becomeLike 46 = .ok (.aload_n 0, 1) := by decide +kernel
theorem tX3_becomeLike_46 {d : Nat} {l1 : Option Value} {v0 v1 v2 v3 : Value} {x : Nat} {m : jmM} {Q : Option Value → jmM → Prop} : AW d 26 46 [some (.ref x), l1] [v0, v1, v2, v3] m Q ↔ AW d 26 47 [some (.ref x), l1] [.ref x, v0, v1, v2, v3] m Q := A_aload_n hB_X3_becomeLike dX3_becomeLike_46 rfl
theorem dX3_becomeLike_47 : decode cX3_becomeLike 47 = .ok (.getfield 22, 3) := by decide +kernel
theorem tX3_becomeLike_47 {d : Nat} {l0 l1 : Option Value} {v1 v2 v3 v4 : Value} {a : Nat} {m : jmM} {Q : Option Value → jmM → Prop} : AW d 26 47 [l0, l1] [.ref a, v1, v2, v3, v4] m Q ↔ (mS m a).1 = 3 ∧ AW d 26 50 [l0, l1] [va_rf (mR m a 3), v1, v2, v3, v4] m Q := A_getfield (f := fun m a => va_rf (mR m a 3)) hB_X3_becomeLike dX3_becomeLike_47 hO_X3_becomeLike fF_3_22 rfl
theorem dX3_becomeLike_50 : decode cX3_becomeLike 50 = .ok (.arraylength, 1) := by decide +kernel
theorem tX3_becomeLike_50 {d : Nat} {l0 l1 : Option Value} {v1 v2 v3 v4 : Value} {a : Nat} {m : jmM} {Q : Option Value → jmM → Prop} : AW d 26 50 [l0, l1] [.ref a, v1, v2, v3, v4] m Q ↔ ((20 ≤ (mS m a).1 ∧ (mS m a).1 ≤ 26) ∨ a = jScr) ∧ AW d 26 51 [l0, l1] [.int (nI (mS m a).2), v1, v2, v3, v4] m Q := A_arraylength hB_X3_becomeLike dX3_becomeLike_50
theorem dX3_becomeLike_51 : decode cX3_becomeLike 51 = .ok (.invokestatic 43, 3) := by decide +kernel
theorem tX3_becomeLike_51 {d : Nat} {l0 l1 : Option Value} {n x y : Int32} {a b : Nat} {m : jmM} {Q : Option Value → jmM → Prop} : AW d 26 51 [l0, l1] [.int n, .int y, .ref b, .int x, .ref a] m Q ↔ (0 ≤ n.toInt ∧ 0 ≤ y.toInt ∧ 0 ≤ x.toInt ∧ x.toInt + n.toInt ≤ ((mS m a).2 : Int) ∧ y.toInt + n.toInt ≤ ((mS m b).2 : Int) ∧ (mS m a).1 = (mS m b).1 ∧ ((mS m b).1 = 20 ∨ (mS m b).1 = 21)) ∧ AW d 26 54 [l0, l1] [] (if (mS m b).1 = 20 then cI m b (va_cpy (mI m a) (mI m b) (jx x) (jx y) (jx n)) else cL m b (va_cpy (mL m a) (mL m b) (jx x) (jx y) (jx n))) Q := A_copy hB_X3_becomeLike dX3_becomeLike_51 hO_X3_becomeLike fS_3_43 (Nat.le_of_ble_eq_true rfl)
theorem dX3_becomeLike_54 : decode cX3_becomeLike 54 = .ok (.aload_n 1, 1) := by decide +kernel
theorem tX3_becomeLike_54 {d : Nat} {l0 : Option Value} {x : Nat} {m : jmM} {Q : Option Value → jmM → Prop} : AW d 26 54 [l0, some (.ref x)] [] m Q ↔ AW d 26 55 [l0, some (.ref x)] [.ref x] m Q := A_aload_n hB_X3_becomeLike dX3_becomeLike_54 rfl
theorem dX3_becomeLike_55 : decode cX3_becomeLike 55 = .ok (.getfield 25, 3) := by decide +kernel
theorem tX3_becomeLike_55 {d : Nat} {l0 l1 : Option Value} {a : Nat} {m : jmM} {Q : Option Value → jmM → Prop} : AW d 26 55 [l0, l1] [.ref a] m Q ↔ (mS m a).1 = 3 ∧ AW d 26 58 [l0, l1] [va_rf (mR m a 4)] m Q := A_getfield (f := fun m a => va_rf (mR m a 4)) hB_X3_becomeLike dX3_becomeLike_55 hO_X3_becomeLike fF_3_25 rfl
theorem dX3_becomeLike_58 : decode cX3_becomeLike 58 = .ok (.iconst 0, 1) := by decide +kernel
theorem tX3_becomeLike_58 {d : Nat} {l0 l1 : Option Value} {v0 : Value} {m : jmM} {Q : Option Value → jmM → Prop} : AW d 26 58 [l0, l1] [v0] m Q ↔ AW d 26 59 [l0, l1] [.int 0, v0] m Q := A_iconst hB_X3_becomeLike dX3_becomeLike_58 (by decide)
theorem dX3_becomeLike_59 : decode cX3_becomeLike 59 = .ok (.aload_n 0, 1) := by decide +kernel
theorem tX3_becomeLike_59 {d : Nat} {l1 : Option Value} {v0 v1 : Value} {x : Nat} {m : jmM} {Q : Option Value → jmM → Prop} : AW d 26 59 [some (.ref x), l1] [v0, v1] m Q ↔ AW d 26 60 [some (.ref x), l1] [.ref x, v0, v1] m Q := A_aload_n hB_X3_becomeLike dX3_becomeLike_59 rfl
theorem dX3_becomeLike_60 : decode cX3_becomeLike 60 = .ok (.getfield 25, 3) := by decide +kernel
theorem tX3_becomeLike_60 {d : Nat} {l0 l1 : Option Value} {v1 v2 : Value} {a : Nat} {m : jmM} {Q : Option Value → jmM → Prop} : AW d 26 60 [l0, l1] [.ref a, v1, v2] m Q ↔ (mS m a).1 = 3 ∧ AW d 26 63 [l0, l1] [va_rf (mR m a 4), v1, v2] m Q := A_getfield (f := fun m a => va_rf (mR m a 4)) hB_X3_becomeLike dX3_becomeLike_60 hO_X3_becomeLike fF_3_25 rfl
theorem dX3_becomeLike_63 : decode cX3_becomeLike 63 = .ok (.iconst 0, 1) := by decide +kernel
theorem tX3_becomeLike_63 {d : Nat} {l0 l1 : Option Value} {v0 v1 v2 : Value} {m : jmM} {Q : Option Value → jmM → Prop} : AW d 26 63 [l0, l1] [v0, v1, v2] m Q ↔ AW d 26 64 [l0, l1] [.int 0, v0, v1, v2] m Q := A_iconst hB_X3_becomeLike dX3_becomeLike_63 (by decide)
theorem dX3_becomeLike_64 : decode cX3_becomeLike 64 = .ok (.aload_n 0, 1) := by decide +kernel
theorem tX3_becomeLike_64 {d : Nat} {l1 : Option Value} {v0 v1 v2 v3 : Value} {x : Nat} {m : jmM} {Q : Option Value → jmM → Prop} : AW d 26 64 [some (.ref x), l1] [v0, v1, v2, v3] m Q ↔ AW d 26 65 [some (.ref x), l1] [.ref x, v0, v1, v2, v3] m Q := A_aload_n hB_X3_becomeLike dX3_becomeLike_64 rfl
theorem dX3_becomeLike_65 : decode cX3_becomeLike 65 = .ok (.getfield 25, 3) := by decide +kernel
theorem tX3_becomeLike_65 {d : Nat} {l0 l1 : Option Value} {v1 v2 v3 v4 : Value} {a : Nat} {m : jmM} {Q : Option Value → jmM → Prop} : AW d 26 65 [l0, l1] [.ref a, v1, v2, v3, v4] m Q ↔ (mS m a).1 = 3 ∧ AW d 26 68 [l0, l1] [va_rf (mR m a 4), v1, v2, v3, v4] m Q := A_getfield (f := fun m a => va_rf (mR m a 4)) hB_X3_becomeLike dX3_becomeLike_65 hO_X3_becomeLike fF_3_25 rfl
theorem dX3_becomeLike_68 : decode cX3_becomeLike 68 = .ok (.arraylength, 1) := by decide +kernel
theorem tX3_becomeLike_68 {d : Nat} {l0 l1 : Option Value} {v1 v2 v3 v4 : Value} {a : Nat} {m : jmM} {Q : Option Value → jmM → Prop} : AW d 26 68 [l0, l1] [.ref a, v1, v2, v3, v4] m Q ↔ ((20 ≤ (mS m a).1 ∧ (mS m a).1 ≤ 26) ∨ a = jScr) ∧ AW d 26 69 [l0, l1] [.int (nI (mS m a).2), v1, v2, v3, v4] m Q := A_arraylength hB_X3_becomeLike dX3_becomeLike_68
theorem dX3_becomeLike_69 : decode cX3_becomeLike 69 = .ok (.invokestatic 43, 3) := by decide +kernel
theorem tX3_becomeLike_69 {d : Nat} {l0 l1 : Option Value} {n x y : Int32} {a b : Nat} {m : jmM} {Q : Option Value → jmM → Prop} : AW d 26 69 [l0, l1] [.int n, .int y, .ref b, .int x, .ref a] m Q ↔ (0 ≤ n.toInt ∧ 0 ≤ y.toInt ∧ 0 ≤ x.toInt ∧ x.toInt + n.toInt ≤ ((mS m a).2 : Int) ∧ y.toInt + n.toInt ≤ ((mS m b).2 : Int) ∧ (mS m a).1 = (mS m b).1 ∧ ((mS m b).1 = 20 ∨ (mS m b).1 = 21)) ∧ AW d 26 72 [l0, l1] [] (if (mS m b).1 = 20 then cI m b (va_cpy (mI m a) (mI m b) (jx x) (jx y) (jx n)) else cL m b (va_cpy (mL m a) (mL m b) (jx x) (jx y) (jx n))) Q := A_copy hB_X3_becomeLike dX3_becomeLike_69 hO_X3_becomeLike fS_3_43 (Nat.le_of_ble_eq_true rfl)
theorem dX3_becomeLike_72 : decode cX3_becomeLike 72 = .ok (.aload_n 1, 1) := by decide +kernel
theorem tX3_becomeLike_72 {d : Nat} {l0 : Option Value} {x : Nat} {m : jmM} {Q : Option Value → jmM → Prop} : AW d 26 72 [l0, some (.ref x)] [] m Q ↔ AW d 26 73 [l0, some (.ref x)] [.ref x] m Q := A_aload_n hB_X3_becomeLike dX3_becomeLike_72 rfl
theorem dX3_becomeLike_73 : decode cX3_becomeLike 73 = .ok (.getfield 28, 3) := by decide +kernel
theorem tX3_becomeLike_73 {d : Nat} {l0 l1 : Option Value} {a : Nat} {m : jmM} {Q : Option Value → jmM → Prop} : AW d 26 73 [l0, l1] [.ref a] m Q ↔ (mS m a).1 = 3 ∧ AW d 26 76 [l0, l1] [va_rf (mR m a 5)] m Q := A_getfield (f := fun m a => va_rf (mR m a 5)) hB_X3_becomeLike dX3_becomeLike_73 hO_X3_becomeLike fF_3_28 rfl
theorem dX3_becomeLike_76 : decode cX3_becomeLike 76 = .ok (.iconst 0, 1) := by decide +kernel
theorem tX3_becomeLike_76 {d : Nat} {l0 l1 : Option Value} {v0 : Value} {m : jmM} {Q : Option Value → jmM → Prop} : AW d 26 76 [l0, l1] [v0] m Q ↔ AW d 26 77 [l0, l1] [.int 0, v0] m Q := A_iconst hB_X3_becomeLike dX3_becomeLike_76 (by decide)
theorem dX3_becomeLike_77 : decode cX3_becomeLike 77 = .ok (.aload_n 0, 1) := by decide +kernel
theorem tX3_becomeLike_77 {d : Nat} {l1 : Option Value} {v0 v1 : Value} {x : Nat} {m : jmM} {Q : Option Value → jmM → Prop} : AW d 26 77 [some (.ref x), l1] [v0, v1] m Q ↔ AW d 26 78 [some (.ref x), l1] [.ref x, v0, v1] m Q := A_aload_n hB_X3_becomeLike dX3_becomeLike_77 rfl
theorem dX3_becomeLike_78 : decode cX3_becomeLike 78 = .ok (.getfield 28, 3) := by decide +kernel
theorem tX3_becomeLike_78 {d : Nat} {l0 l1 : Option Value} {v1 v2 : Value} {a : Nat} {m : jmM} {Q : Option Value → jmM → Prop} : AW d 26 78 [l0, l1] [.ref a, v1, v2] m Q ↔ (mS m a).1 = 3 ∧ AW d 26 81 [l0, l1] [va_rf (mR m a 5), v1, v2] m Q := A_getfield (f := fun m a => va_rf (mR m a 5)) hB_X3_becomeLike dX3_becomeLike_78 hO_X3_becomeLike fF_3_28 rfl
theorem dX3_becomeLike_81 : decode cX3_becomeLike 81 = .ok (.iconst 0, 1) := by decide +kernel
theorem tX3_becomeLike_81 {d : Nat} {l0 l1 : Option Value} {v0 v1 v2 : Value} {m : jmM} {Q : Option Value → jmM → Prop} : AW d 26 81 [l0, l1] [v0, v1, v2] m Q ↔ AW d 26 82 [l0, l1] [.int 0, v0, v1, v2] m Q := A_iconst hB_X3_becomeLike dX3_becomeLike_81 (by decide)
theorem dX3_becomeLike_82 : decode cX3_becomeLike 82 = .ok (.aload_n 0, 1) := by decide +kernel
theorem tX3_becomeLike_82 {d : Nat} {l1 : Option Value} {v0 v1 v2 v3 : Value} {x : Nat} {m : jmM} {Q : Option Value → jmM → Prop} : AW d 26 82 [some (.ref x), l1] [v0, v1, v2, v3] m Q ↔ AW d 26 83 [some (.ref x), l1] [.ref x, v0, v1, v2, v3] m Q := A_aload_n hB_X3_becomeLike dX3_becomeLike_82 rfl
theorem dX3_becomeLike_83 : decode cX3_becomeLike 83 = .ok (.getfield 28, 3) := by decide +kernel
theorem tX3_becomeLike_83 {d : Nat} {l0 l1 : Option Value} {v1 v2 v3 v4 : Value} {a : Nat} {m : jmM} {Q : Option Value → jmM → Prop} : AW d 26 83 [l0, l1] [.ref a, v1, v2, v3, v4] m Q ↔ (mS m a).1 = 3 ∧ AW d 26 86 [l0, l1] [va_rf (mR m a 5), v1, v2, v3, v4] m Q := A_getfield (f := fun m a => va_rf (mR m a 5)) hB_X3_becomeLike dX3_becomeLike_83 hO_X3_becomeLike fF_3_28 rfl
theorem dX3_becomeLike_86 : decode cX3_becomeLike 86 = .ok (.arraylength, 1) := by decide +kernel
theorem tX3_becomeLike_86 {d : Nat} {l0 l1 : Option Value} {v1 v2 v3 v4 : Value} {a : Nat} {m : jmM} {Q : Option Value → jmM → Prop} : AW d 26 86 [l0, l1] [.ref a, v1, v2, v3, v4] m Q ↔ ((20 ≤ (mS m a).1 ∧ (mS m a).1 ≤ 26) ∨ a = jScr) ∧ AW d 26 87 [l0, l1] [.int (nI (mS m a).2), v1, v2, v3, v4] m Q := A_arraylength hB_X3_becomeLike dX3_becomeLike_86
theorem dX3_becomeLike_87 : decode cX3_becomeLike 87 = .ok (.invokestatic 43, 3) := by decide +kernel
theorem tX3_becomeLike_87 {d : Nat} {l0 l1 : Option Value} {n x y : Int32} {a b : Nat} {m : jmM} {Q : Option Value → jmM → Prop} : AW d 26 87 [l0, l1] [.int n, .int y, .ref b, .int x, .ref a] m Q ↔ (0 ≤ n.toInt ∧ 0 ≤ y.toInt ∧ 0 ≤ x.toInt ∧ x.toInt + n.toInt ≤ ((mS m a).2 : Int) ∧ y.toInt + n.toInt ≤ ((mS m b).2 : Int) ∧ (mS m a).1 = (mS m b).1 ∧ ((mS m b).1 = 20 ∨ (mS m b).1 = 21)) ∧ AW d 26 90 [l0, l1] [] (if (mS m b).1 = 20 then cI m b (va_cpy (mI m a) (mI m b) (jx x) (jx y) (jx n)) else cL m b (va_cpy (mL m a) (mL m b) (jx x) (jx y) (jx n))) Q := A_copy hB_X3_becomeLike dX3_becomeLike_87 hO_X3_becomeLike fS_3_43 (Nat.le_of_ble_eq_true rfl)
theorem dX3_becomeLike_90 : decode cX3_becomeLike 90 = .ok (.aload_n 0, 1) := by decide +kernel
theorem tX3_becomeLike_90 {d : Nat} {l1 : Option Value} {x : Nat} {m : jmM} {Q : Option Value → jmM → Prop} : AW d 26 90 [some (.ref x), l1] [] m Q ↔ AW d 26 91 [some (.ref x), l1] [.ref x] m Q := A_aload_n hB_X3_becomeLike dX3_becomeLike_90 rfl
theorem dX3_becomeLike_91 : decode cX3_becomeLike 91 = .ok (.aload_n 1, 1) := by decide +kernel
theorem tX3_becomeLike_91 {d : Nat} {l0 : Option Value} {v0 : Value} {x : Nat} {m : jmM} {Q : Option Value → jmM → Prop} : AW d 26 91 [l0, some (.ref x)] [v0] m Q ↔ AW d 26 92 [l0, some (.ref x)] [.ref x, v0] m Q := A_aload_n hB_X3_becomeLike dX3_becomeLike_91 rfl
theorem dX3_becomeLike_92 : decode cX3_becomeLike 92 = .ok (.getfield 15, 3) := by decide +kernel
theorem tX3_becomeLike_92 {d : Nat} {l0 l1 : Option Value} {v1 : Value} {a : Nat} {m : jmM} {Q : Option Value → jmM → Prop} : AW d 26 92 [l0, l1] [.ref a, v1] m Q ↔ (mS m a).1 = 3 ∧ AW d 26 95 [l0, l1] [.int (mI m a 1), v1] m Q := A_getfield (f := fun m a => .int (mI m a 1)) hB_X3_becomeLike dX3_becomeLike_92 hO_X3_becomeLike fF_3_15 rfl
theorem dX3_becomeLike_95 : decode cX3_becomeLike 95 = .ok (.putfield 15, 3) := by decide +kernel
theorem tX3_becomeLike_95 {d : Nat} {l0 l1 : Option Value} {x : Int32} {a : Nat} {m : jmM} {Q : Option Value → jmM → Prop} : AW d 26 95 [l0, l1] [.int x, .ref a] m Q ↔ (mS m a).1 = 3 ∧ AW d 26 98 [l0, l1] [] (cI m a (jup (mI m a) 1 x)) Q := A_putI hB_X3_becomeLike dX3_becomeLike_95 hO_X3_becomeLike fF_3_15 rfl (fun h => Bool.noConfusion h)
theorem dX3_becomeLike_98 : decode cX3_becomeLike 98 = .ok (.aload_n 0, 1) := by decide +kernel
theorem tX3_becomeLike_98 {d : Nat} {l1 : Option Value} {x : Nat} {m : jmM} {Q : Option Value → jmM → Prop} : AW d 26 98 [some (.ref x), l1] [] m Q ↔ AW d 26 99 [some (.ref x), l1] [.ref x] m Q := A_aload_n hB_X3_becomeLike dX3_becomeLike_98 rfl
theorem dX3_becomeLike_99 : decode cX3_becomeLike 99 = .ok (.aload_n 1, 1) := by decide +kernel
theorem tX3_becomeLike_99 {d : Nat} {l0 : Option Value} {v0 : Value} {x : Nat} {m : jmM} {Q : Option Value → jmM → Prop} : AW d 26 99 [l0, some (.ref x)] [v0] m Q ↔ AW d 26 100 [l0, some (.ref x)] [.ref x, v0] m Q := A_aload_n hB_X3_becomeLike dX3_becomeLike_99 rfl
theorem dX3_becomeLike_100 : decode cX3_becomeLike 100 = .ok (.getfield 31, 3) := by decide +kernel
theorem tX3_becomeLike_100 {d : Nat} {l0 l1 : Option Value} {v1 : Value} {a : Nat} {m : jmM} {Q : Option Value → jmM → Prop} : AW d 26 100 [l0, l1] [.ref a, v1] m Q ↔ (mS m a).1 = 3 ∧ AW d 26 103 [l0, l1] [.int (mI m a 6), v1] m Q := A_getfield (f := fun m a => .int (mI m a 6)) hB_X3_becomeLike dX3_becomeLike_100 hO_X3_becomeLike fF_3_31 rfl
theorem dX3_becomeLike_103 : decode cX3_becomeLike 103 = .ok (.putfield 31, 3) := by decide +kernel
theorem tX3_becomeLike_103 {d : Nat} {l0 l1 : Option Value} {x : Int32} {a : Nat} {m : jmM} {Q : Option Value → jmM → Prop} : AW d 26 103 [l0, l1] [.int x, .ref a] m Q ↔ (mS m a).1 = 3 ∧ AW d 26 106 [l0, l1] [] (cI m a (jup (mI m a) 6 x)) Q := A_putI hB_X3_becomeLike dX3_becomeLike_103 hO_X3_becomeLike fF_3_31 rfl (fun h => Bool.noConfusion h)
theorem dX3_becomeLike_106 : decode cX3_becomeLike 106 = .ok (.aload_n 0, 1) := by decide +kernel
theorem tX3_becomeLike_106 {d : Nat} {l1 : Option Value} {x : Nat} {m : jmM} {Q : Option Value → jmM → Prop} : AW d 26 106 [some (.ref x), l1] [] m Q ↔ AW d 26 107 [some (.ref x), l1] [.ref x] m Q := A_aload_n hB_X3_becomeLike dX3_becomeLike_106 rfl
theorem dX3_becomeLike_107 : decode cX3_becomeLike 107 = .ok (.aload_n 1, 1) := by decide +kernel
theorem tX3_becomeLike_107 {d : Nat} {l0 : Option Value} {v0 : Value} {x : Nat} {m : jmM} {Q : Option Value → jmM → Prop} : AW d 26 107 [l0, some (.ref x)] [v0] m Q ↔ AW d 26 108 [l0, some (.ref x)] [.ref x, v0] m Q := A_aload_n hB_X3_becomeLike dX3_becomeLike_107 rfl
theorem dX3_becomeLike_108 : decode cX3_becomeLike 108 = .ok (.getfield 34, 3) := by decide +kernel
theorem tX3_becomeLike_108 {d : Nat} {l0 l1 : Option Value} {v1 : Value} {a : Nat} {m : jmM} {Q : Option Value → jmM → Prop} : AW d 26 108 [l0, l1] [.ref a, v1] m Q ↔ (mS m a).1 = 3 ∧ AW d 26 111 [l0, l1] [.int (mI m a 7), v1] m Q := A_getfield (f := fun m a => .int (mI m a 7)) hB_X3_becomeLike dX3_becomeLike_108 hO_X3_becomeLike fF_3_34 rfl
theorem dX3_becomeLike_111 : decode cX3_becomeLike 111 = .ok (.putfield 34, 3) := by decide +kernel
theorem tX3_becomeLike_111 {d : Nat} {l0 l1 : Option Value} {x : Int32} {a : Nat} {m : jmM} {Q : Option Value → jmM → Prop} : AW d 26 111 [l0, l1] [.int x, .ref a] m Q ↔ (mS m a).1 = 3 ∧ AW d 26 114 [l0, l1] [] (cI m a (jup (mI m a) 7 x)) Q := A_putI hB_X3_becomeLike dX3_becomeLike_111 hO_X3_becomeLike fF_3_34 rfl (fun h => Bool.noConfusion h)
theorem dX3_becomeLike_114 : decode cX3_becomeLike 114 = .ok (.aload_n 0, 1) := by decide +kernel
theorem tX3_becomeLike_114 {d : Nat} {l1 : Option Value} {x : Nat} {m : jmM} {Q : Option Value → jmM → Prop} : AW d 26 114 [some (.ref x), l1] [] m Q ↔ AW d 26 115 [some (.ref x), l1] [.ref x] m Q := A_aload_n hB_X3_becomeLike dX3_becomeLike_114 rfl
theorem dX3_becomeLike_115 : decode cX3_becomeLike 115 = .ok (.aload_n 1, 1) := by decide +kernel
theorem tX3_becomeLike_115 {d : Nat} {l0 : Option Value} {v0 : Value} {x : Nat} {m : jmM} {Q : Option Value → jmM → Prop} : AW d 26 115 [l0, some (.ref x)] [v0] m Q ↔ AW d 26 116 [l0, some (.ref x)] [.ref x, v0] m Q := A_aload_n hB_X3_becomeLike dX3_becomeLike_115 rfl
theorem dX3_becomeLike_116 : decode cX3_becomeLike 116 = .ok (.getfield 37, 3) := by decide +kernel
theorem tX3_becomeLike_116 {d : Nat} {l0 l1 : Option Value} {v1 : Value} {a : Nat} {m : jmM} {Q : Option Value → jmM → Prop} : AW d 26 116 [l0, l1] [.ref a, v1] m Q ↔ (mS m a).1 = 3 ∧ AW d 26 119 [l0, l1] [.int (mI m a 8), v1] m Q := A_getfield (f := fun m a => .int (mI m a 8)) hB_X3_becomeLike dX3_becomeLike_116 hO_X3_becomeLike fF_3_37 rfl
theorem dX3_becomeLike_119 : decode cX3_becomeLike 119 = .ok (.putfield 37, 3) := by decide +kernel
theorem tX3_becomeLike_119 {d : Nat} {l0 l1 : Option Value} {x : Int32} {a : Nat} {m : jmM} {Q : Option Value → jmM → Prop} : AW d 26 119 [l0, l1] [.int x, .ref a] m Q ↔ (mS m a).1 = 3 ∧ AW d 26 122 [l0, l1] [] (cI m a (jup (mI m a) 8 x)) Q := A_putI hB_X3_becomeLike dX3_becomeLike_119 hO_X3_becomeLike fF_3_37 rfl (fun h => Bool.noConfusion h)
theorem dX3_becomeLike_122 : decode cX3_becomeLike 122 = .ok (.aload_n 0, 1) := by decide +kernel
theorem tX3_becomeLike_122 {d : Nat} {l1 : Option Value} {x : Nat} {m : jmM} {Q : Option Value → jmM → Prop} : AW d 26 122 [some (.ref x), l1] [] m Q ↔ AW d 26 123 [some (.ref x), l1] [.ref x] m Q := A_aload_n hB_X3_becomeLike dX3_becomeLike_122 rfl
theorem dX3_becomeLike_123 : decode cX3_becomeLike 123 = .ok (.aload_n 1, 1) := by decide +kernel
theorem tX3_becomeLike_123 {d : Nat} {l0 : Option Value} {v0 : Value} {x : Nat} {m : jmM} {Q : Option Value → jmM → Prop} : AW d 26 123 [l0, some (.ref x)] [v0] m Q ↔ AW d 26 124 [l0, some (.ref x)] [.ref x, v0] m Q := A_aload_n hB_X3_becomeLike dX3_becomeLike_123 rfl
theorem dX3_becomeLike_124 : decode cX3_becomeLike 124 = .ok (.getfield 40, 3) := by decide +kernel
theorem tX3_becomeLike_124 {d : Nat} {l0 l1 : Option Value} {v1 : Value} {a : Nat} {m : jmM} {Q : Option Value → jmM → Prop} : AW d 26 124 [l0, l1] [.ref a, v1] m Q ↔ (mS m a).1 = 3 ∧ AW d 26 127 [l0, l1] [.int (mI m a 9), v1] m Q := A_getfield (f := fun m a => .int (mI m a 9)) hB_X3_becomeLike dX3_becomeLike_124 hO_X3_becomeLike fF_3_40 rfl
theorem dX3_becomeLike_127 : decode cX3_becomeLike 127 = .ok (.putfield 40, 3) := by decide +kernel
theorem tX3_becomeLike_127 {d : Nat} {l0 l1 : Option Value} {x : Int32} {a : Nat} {m : jmM} {Q : Option Value → jmM → Prop} : AW d 26 127 [l0, l1] [.int x, .ref a] m Q ↔ (mS m a).1 = 3 ∧ AW d 26 130 [l0, l1] [] (cI m a (jup (mI m a) 9 x)) Q := A_putI hB_X3_becomeLike dX3_becomeLike_127 hO_X3_becomeLike fF_3_40 rfl (fun h => Bool.noConfusion h)
theorem dX3_becomeLike_130 : decode cX3_becomeLike 130 = .ok (.return_, 1) := by decide +kernel
theorem tX3_becomeLike_130 {d : Nat} {l0 l1 : Option Value} {m : jmM} {Q : Option Value → jmM → Prop} : AW d 26 130 [l0, l1] [] m Q ↔ Q none m := A_return hB_X3_becomeLike dX3_becomeLike_130 hR_X3_becomeLike
theorem hB_X3_write : jB 27 = cX3_write := rfl
theorem hO_X3_write : jO 27 = 3 := rfl
theorem hR_X3_write : jRt 27 = none := rfl
theorem nX3_write (d : Nat) (x0 : Nat) (x1 : Int32) (m : jmM) (Q : Option Value → jmM → Prop) : CC (d + 1) 27 [.ref x0, .int x1] m Q ↔ AW d 27 0 [some (.ref x0), some (.int x1)] [] m Q := CC_body (Nat.le_of_ble_eq_true rfl)
theorem dX3_write_0 : decode cX3_write 0 = .ok (.aload_n 0, 1) := by decide +kernel
theorem tX3_write_0 {d : Nat} {l1 : Option Value} {x : Nat} {m : jmM} {Q : Option Value → jmM → Prop} : AW d 27 0 [some (.ref x), l1] [] m Q ↔ AW d 27 1 [some (.ref x), l1] [.ref x] m Q := A_aload_n hB_X3_write dX3_write_0 rfl
theorem dX3_write_1 : decode cX3_write 1 = .ok (.getfield 15, 3) := by decide +kernel
theorem tX3_write_1 {d : Nat} {l0 l1 : Option Value} {a : Nat} {m : jmM} {Q : Option Value → jmM → Prop} : AW d 27 1 [l0, l1] [.ref a] m Q ↔ (mS m a).1 = 3 ∧ AW d 27 4 [l0, l1] [.int (mI m a 1)] m Q := A_getfield (f := fun m a => .int (mI m a 1)) hB_X3_write dX3_write_1 hO_X3_write fF_3_15 rfl
theorem dX3_write_4 : decode cX3_write 4 = .ok (.aload_n 0, 1) := by decide +kernel
theorem tX3_write_4 {d : Nat} {l1 : Option Value} {v0 : Value} {x : Nat} {m : jmM} {Q : Option Value → jmM → Prop} : AW d 27 4 [some (.ref x), l1] [v0] m Q ↔ AW d 27 5 [some (.ref x), l1] [.ref x, v0] m Q := A_aload_n hB_X3_write dX3_write_4 rfl
theorem dX3_write_5 : decode cX3_write 5 = .ok (.getfield 9, 3) := by decide +kernel
theorem tX3_write_5 {d : Nat} {l0 l1 : Option Value} {v1 : Value} {a : Nat} {m : jmM} {Q : Option Value → jmM → Prop} : AW d 27 5 [l0, l1] [.ref a, v1] m Q ↔ (mS m a).1 = 3 ∧ AW d 27 8 [l0, l1] [va_rf (mR m a 0), v1] m Q := A_getfield (f := fun m a => va_rf (mR m a 0)) hB_X3_write dX3_write_5 hO_X3_write fF_3_9 rfl
theorem dX3_write_8 : decode cX3_write 8 = .ok (.arraylength, 1) := by decide +kernel
theorem tX3_write_8 {d : Nat} {l0 l1 : Option Value} {v1 : Value} {a : Nat} {m : jmM} {Q : Option Value → jmM → Prop} : AW d 27 8 [l0, l1] [.ref a, v1] m Q ↔ ((20 ≤ (mS m a).1 ∧ (mS m a).1 ≤ 26) ∨ a = jScr) ∧ AW d 27 9 [l0, l1] [.int (nI (mS m a).2), v1] m Q := A_arraylength hB_X3_write dX3_write_8
theorem dX3_write_9 : decode cX3_write 9 = .ok (.if_icmp .ge 23, 3) := by decide +kernel
theorem tX3_write_9 {d : Nat} {l0 l1 : Option Value} {x y : Int32} {m : jmM} {Q : Option Value → jmM → Prop} : AW d 27 9 [l0, l1] [.int y, .int x] m Q ↔ if y ≤ x then AW d 27 32 [l0, l1] [] m Q else AW d 27 12 [l0, l1] [] m Q := A_icmp_ge hB_X3_write dX3_write_9 (by decide)
theorem dX3_write_12 : decode cX3_write 12 = .ok (.aload_n 0, 1) := by decide +kernel
theorem tX3_write_12 {d : Nat} {l1 : Option Value} {x : Nat} {m : jmM} {Q : Option Value → jmM → Prop} : AW d 27 12 [some (.ref x), l1] [] m Q ↔ AW d 27 13 [some (.ref x), l1] [.ref x] m Q := A_aload_n hB_X3_write dX3_write_12 rfl
theorem dX3_write_13 : decode cX3_write 13 = .ok (.getfield 9, 3) := by decide +kernel
theorem tX3_write_13 {d : Nat} {l0 l1 : Option Value} {a : Nat} {m : jmM} {Q : Option Value → jmM → Prop} : AW d 27 13 [l0, l1] [.ref a] m Q ↔ (mS m a).1 = 3 ∧ AW d 27 16 [l0, l1] [va_rf (mR m a 0)] m Q := A_getfield (f := fun m a => va_rf (mR m a 0)) hB_X3_write dX3_write_13 hO_X3_write fF_3_9 rfl
theorem dX3_write_16 : decode cX3_write 16 = .ok (.aload_n 0, 1) := by decide +kernel
theorem tX3_write_16 {d : Nat} {l1 : Option Value} {v0 : Value} {x : Nat} {m : jmM} {Q : Option Value → jmM → Prop} : AW d 27 16 [some (.ref x), l1] [v0] m Q ↔ AW d 27 17 [some (.ref x), l1] [.ref x, v0] m Q := A_aload_n hB_X3_write dX3_write_16 rfl
theorem dX3_write_17 : decode cX3_write 17 = .ok (.getfield 15, 3) := by decide +kernel
theorem tX3_write_17 {d : Nat} {l0 l1 : Option Value} {v1 : Value} {a : Nat} {m : jmM} {Q : Option Value → jmM → Prop} : AW d 27 17 [l0, l1] [.ref a, v1] m Q ↔ (mS m a).1 = 3 ∧ AW d 27 20 [l0, l1] [.int (mI m a 1), v1] m Q := A_getfield (f := fun m a => .int (mI m a 1)) hB_X3_write dX3_write_17 hO_X3_write fF_3_15 rfl
theorem dX3_write_20 : decode cX3_write 20 = .ok (.iload_n 1, 1) := by decide +kernel
theorem tX3_write_20 {d : Nat} {l0 : Option Value} {v0 v1 : Value} {x : Int32} {m : jmM} {Q : Option Value → jmM → Prop} : AW d 27 20 [l0, some (.int x)] [v0, v1] m Q ↔ AW d 27 21 [l0, some (.int x)] [.int x, v0, v1] m Q := A_iload_n hB_X3_write dX3_write_20 rfl
theorem dX3_write_21 : decode cX3_write 21 = .ok (.iastore, 1) := by decide +kernel
theorem tX3_write_21 {d : Nat} {l0 l1 : Option Value} {x i : Int32} {a : Nat} {m : jmM} {Q : Option Value → jmM → Prop} : AW d 27 21 [l0, l1] [.int x, .int i, .ref a] m Q ↔ ((mS m a).1 = 20 ∧ jIx i (mS m a).2) ∧ AW d 27 22 [l0, l1] [] (cI m a (jup (mI m a) (jx i) x)) Q := A_iastore hB_X3_write dX3_write_21
theorem dX3_write_22 : decode cX3_write 22 = .ok (.aload_n 0, 1) := by decide +kernel
theorem tX3_write_22 {d : Nat} {l1 : Option Value} {x : Nat} {m : jmM} {Q : Option Value → jmM → Prop} : AW d 27 22 [some (.ref x), l1] [] m Q ↔ AW d 27 23 [some (.ref x), l1] [.ref x] m Q := A_aload_n hB_X3_write dX3_write_22 rfl
theorem dX3_write_23 : decode cX3_write 23 = .ok (.dup, 1) := by decide +kernel
theorem tX3_write_23 {d : Nat} {l0 l1 : Option Value} {x : Nat} {m : jmM} {Q : Option Value → jmM → Prop} : AW d 27 23 [l0, l1] [.ref x] m Q ↔ AW d 27 24 [l0, l1] [.ref x, .ref x] m Q := A_dup_a hB_X3_write dX3_write_23
theorem dX3_write_24 : decode cX3_write 24 = .ok (.getfield 15, 3) := by decide +kernel
theorem tX3_write_24 {d : Nat} {l0 l1 : Option Value} {v1 : Value} {a : Nat} {m : jmM} {Q : Option Value → jmM → Prop} : AW d 27 24 [l0, l1] [.ref a, v1] m Q ↔ (mS m a).1 = 3 ∧ AW d 27 27 [l0, l1] [.int (mI m a 1), v1] m Q := A_getfield (f := fun m a => .int (mI m a 1)) hB_X3_write dX3_write_24 hO_X3_write fF_3_15 rfl
theorem dX3_write_27 : decode cX3_write 27 = .ok (.iconst 1, 1) := by decide +kernel
theorem tX3_write_27 {d : Nat} {l0 l1 : Option Value} {v0 v1 : Value} {m : jmM} {Q : Option Value → jmM → Prop} : AW d 27 27 [l0, l1] [v0, v1] m Q ↔ AW d 27 28 [l0, l1] [.int 1, v0, v1] m Q := A_iconst hB_X3_write dX3_write_27 (by decide)
theorem dX3_write_28 : decode cX3_write 28 = .ok (.iadd, 1) := by decide +kernel
theorem tX3_write_28 {d : Nat} {l0 l1 : Option Value} {v2 : Value} {x y : Int32} {m : jmM} {Q : Option Value → jmM → Prop} : AW d 27 28 [l0, l1] [.int y, .int x, v2] m Q ↔ AW d 27 29 [l0, l1] [.int (x + y), v2] m Q := A_iadd hB_X3_write dX3_write_28
theorem dX3_write_29 : decode cX3_write 29 = .ok (.putfield 15, 3) := by decide +kernel
theorem tX3_write_29 {d : Nat} {l0 l1 : Option Value} {x : Int32} {a : Nat} {m : jmM} {Q : Option Value → jmM → Prop} : AW d 27 29 [l0, l1] [.int x, .ref a] m Q ↔ (mS m a).1 = 3 ∧ AW d 27 32 [l0, l1] [] (cI m a (jup (mI m a) 1 x)) Q := A_putI hB_X3_write dX3_write_29 hO_X3_write fF_3_15 rfl (fun h => Bool.noConfusion h)
theorem dX3_write_32 : decode cX3_write 32 = .ok (.return_, 1) := by decide +kernel
theorem tX3_write_32 {d : Nat} {l0 l1 : Option Value} {m : jmM} {Q : Option Value → jmM → Prop} : AW d 27 32 [l0, l1] [] m Q ↔ Q none m := A_return hB_X3_write dX3_write_32 hR_X3_write
theorem hB_X3_addRule : jB 28 = cX3_addRule := rfl
theorem hO_X3_addRule : jO 28 = 3 := rfl
theorem hR_X3_addRule : jRt 28 = none := rfl
theorem nX3_addRule (d : Nat) (x0 : Nat) (x1 : Int32) (x2 : Int32) (x3 : Int32) (m : jmM) (Q : Option Value → jmM → Prop) : CC (d + 1) 28 [.ref x0, .int x1, .int x2, .int x3] m Q ↔ AW d 28 0 [some (.ref x0), some (.int x1), some (.int x2), some (.int x3)] [] m Q := CC_body (Nat.le_of_ble_eq_true rfl)
theorem dX3_addRule_0 : decode cX3_addRule 0 = .ok (.aload_n 0, 1) := by decide +kernel
theorem tX3_addRule_0 {d : Nat} {l1 l2 l3 : Option Value} {x : Nat} {m : jmM} {Q : Option Value → jmM → Prop} : AW d 28 0 [some (.ref x), l1, l2, l3] [] m Q ↔ AW d 28 1 [some (.ref x), l1, l2, l3] [.ref x] m Q := A_aload_n hB_X3_addRule dX3_addRule_0 rfl
theorem dX3_addRule_1 : decode cX3_addRule 1 = .ok (.getfield 31, 3) := by decide +kernel
theorem tX3_addRule_1 {d : Nat} {l0 l1 l2 l3 : Option Value} {a : Nat} {m : jmM} {Q : Option Value → jmM → Prop} : AW d 28 1 [l0, l1, l2, l3] [.ref a] m Q ↔ (mS m a).1 = 3 ∧ AW d 28 4 [l0, l1, l2, l3] [.int (mI m a 6)] m Q := A_getfield (f := fun m a => .int (mI m a 6)) hB_X3_addRule dX3_addRule_1 hO_X3_addRule fF_3_31 rfl
theorem dX3_addRule_4 : decode cX3_addRule 4 = .ok (.bipush 12, 2) := by decide +kernel
theorem tX3_addRule_4 {d : Nat} {l0 l1 l2 l3 : Option Value} {v0 : Value} {m : jmM} {Q : Option Value → jmM → Prop} : AW d 28 4 [l0, l1, l2, l3] [v0] m Q ↔ AW d 28 6 [l0, l1, l2, l3] [.int 12, v0] m Q := A_bipush hB_X3_addRule dX3_addRule_4 rfl
theorem dX3_addRule_6 : decode cX3_addRule 6 = .ok (.if_icmp .ge 56, 3) := by decide +kernel
theorem tX3_addRule_6 {d : Nat} {l0 l1 l2 l3 : Option Value} {x y : Int32} {m : jmM} {Q : Option Value → jmM → Prop} : AW d 28 6 [l0, l1, l2, l3] [.int y, .int x] m Q ↔ if y ≤ x then AW d 28 62 [l0, l1, l2, l3] [] m Q else AW d 28 9 [l0, l1, l2, l3] [] m Q := A_icmp_ge hB_X3_addRule dX3_addRule_6 (by decide)
theorem dX3_addRule_9 : decode cX3_addRule 9 = .ok (.aload_n 0, 1) := by decide +kernel
theorem tX3_addRule_9 {d : Nat} {l1 l2 l3 : Option Value} {x : Nat} {m : jmM} {Q : Option Value → jmM → Prop} : AW d 28 9 [some (.ref x), l1, l2, l3] [] m Q ↔ AW d 28 10 [some (.ref x), l1, l2, l3] [.ref x] m Q := A_aload_n hB_X3_addRule dX3_addRule_9 rfl
theorem dX3_addRule_10 : decode cX3_addRule 10 = .ok (.getfield 19, 3) := by decide +kernel
theorem tX3_addRule_10 {d : Nat} {l0 l1 l2 l3 : Option Value} {a : Nat} {m : jmM} {Q : Option Value → jmM → Prop} : AW d 28 10 [l0, l1, l2, l3] [.ref a] m Q ↔ (mS m a).1 = 3 ∧ AW d 28 13 [l0, l1, l2, l3] [va_rf (mR m a 2)] m Q := A_getfield (f := fun m a => va_rf (mR m a 2)) hB_X3_addRule dX3_addRule_10 hO_X3_addRule fF_3_19 rfl
theorem dX3_addRule_13 : decode cX3_addRule 13 = .ok (.aload_n 0, 1) := by decide +kernel
theorem tX3_addRule_13 {d : Nat} {l1 l2 l3 : Option Value} {v0 : Value} {x : Nat} {m : jmM} {Q : Option Value → jmM → Prop} : AW d 28 13 [some (.ref x), l1, l2, l3] [v0] m Q ↔ AW d 28 14 [some (.ref x), l1, l2, l3] [.ref x, v0] m Q := A_aload_n hB_X3_addRule dX3_addRule_13 rfl
theorem dX3_addRule_14 : decode cX3_addRule 14 = .ok (.getfield 31, 3) := by decide +kernel
theorem tX3_addRule_14 {d : Nat} {l0 l1 l2 l3 : Option Value} {v1 : Value} {a : Nat} {m : jmM} {Q : Option Value → jmM → Prop} : AW d 28 14 [l0, l1, l2, l3] [.ref a, v1] m Q ↔ (mS m a).1 = 3 ∧ AW d 28 17 [l0, l1, l2, l3] [.int (mI m a 6), v1] m Q := A_getfield (f := fun m a => .int (mI m a 6)) hB_X3_addRule dX3_addRule_14 hO_X3_addRule fF_3_31 rfl
theorem dX3_addRule_17 : decode cX3_addRule 17 = .ok (.iload_n 1, 1) := by decide +kernel
theorem tX3_addRule_17 {d : Nat} {l0 l2 l3 : Option Value} {v0 v1 : Value} {x : Int32} {m : jmM} {Q : Option Value → jmM → Prop} : AW d 28 17 [l0, some (.int x), l2, l3] [v0, v1] m Q ↔ AW d 28 18 [l0, some (.int x), l2, l3] [.int x, v0, v1] m Q := A_iload_n hB_X3_addRule dX3_addRule_17 rfl
theorem dX3_addRule_18 : decode cX3_addRule 18 = .ok (.iastore, 1) := by decide +kernel
theorem tX3_addRule_18 {d : Nat} {l0 l1 l2 l3 : Option Value} {x i : Int32} {a : Nat} {m : jmM} {Q : Option Value → jmM → Prop} : AW d 28 18 [l0, l1, l2, l3] [.int x, .int i, .ref a] m Q ↔ ((mS m a).1 = 20 ∧ jIx i (mS m a).2) ∧ AW d 28 19 [l0, l1, l2, l3] [] (cI m a (jup (mI m a) (jx i) x)) Q := A_iastore hB_X3_addRule dX3_addRule_18
theorem dX3_addRule_19 : decode cX3_addRule 19 = .ok (.aload_n 0, 1) := by decide +kernel
theorem tX3_addRule_19 {d : Nat} {l1 l2 l3 : Option Value} {x : Nat} {m : jmM} {Q : Option Value → jmM → Prop} : AW d 28 19 [some (.ref x), l1, l2, l3] [] m Q ↔ AW d 28 20 [some (.ref x), l1, l2, l3] [.ref x] m Q := A_aload_n hB_X3_addRule dX3_addRule_19 rfl
theorem dX3_addRule_20 : decode cX3_addRule 20 = .ok (.getfield 22, 3) := by decide +kernel
theorem tX3_addRule_20 {d : Nat} {l0 l1 l2 l3 : Option Value} {a : Nat} {m : jmM} {Q : Option Value → jmM → Prop} : AW d 28 20 [l0, l1, l2, l3] [.ref a] m Q ↔ (mS m a).1 = 3 ∧ AW d 28 23 [l0, l1, l2, l3] [va_rf (mR m a 3)] m Q := A_getfield (f := fun m a => va_rf (mR m a 3)) hB_X3_addRule dX3_addRule_20 hO_X3_addRule fF_3_22 rfl
theorem dX3_addRule_23 : decode cX3_addRule 23 = .ok (.aload_n 0, 1) := by decide +kernel
theorem tX3_addRule_23 {d : Nat} {l1 l2 l3 : Option Value} {v0 : Value} {x : Nat} {m : jmM} {Q : Option Value → jmM → Prop} : AW d 28 23 [some (.ref x), l1, l2, l3] [v0] m Q ↔ AW d 28 24 [some (.ref x), l1, l2, l3] [.ref x, v0] m Q := A_aload_n hB_X3_addRule dX3_addRule_23 rfl
theorem dX3_addRule_24 : decode cX3_addRule 24 = .ok (.getfield 31, 3) := by decide +kernel
theorem tX3_addRule_24 {d : Nat} {l0 l1 l2 l3 : Option Value} {v1 : Value} {a : Nat} {m : jmM} {Q : Option Value → jmM → Prop} : AW d 28 24 [l0, l1, l2, l3] [.ref a, v1] m Q ↔ (mS m a).1 = 3 ∧ AW d 28 27 [l0, l1, l2, l3] [.int (mI m a 6), v1] m Q := A_getfield (f := fun m a => .int (mI m a 6)) hB_X3_addRule dX3_addRule_24 hO_X3_addRule fF_3_31 rfl
theorem dX3_addRule_27 : decode cX3_addRule 27 = .ok (.iload_n 2, 1) := by decide +kernel
theorem tX3_addRule_27 {d : Nat} {l0 l1 l3 : Option Value} {v0 v1 : Value} {x : Int32} {m : jmM} {Q : Option Value → jmM → Prop} : AW d 28 27 [l0, l1, some (.int x), l3] [v0, v1] m Q ↔ AW d 28 28 [l0, l1, some (.int x), l3] [.int x, v0, v1] m Q := A_iload_n hB_X3_addRule dX3_addRule_27 rfl
theorem dX3_addRule_28 : decode cX3_addRule 28 = .ok (.iastore, 1) := by decide +kernel
theorem tX3_addRule_28 {d : Nat} {l0 l1 l2 l3 : Option Value} {x i : Int32} {a : Nat} {m : jmM} {Q : Option Value → jmM → Prop} : AW d 28 28 [l0, l1, l2, l3] [.int x, .int i, .ref a] m Q ↔ ((mS m a).1 = 20 ∧ jIx i (mS m a).2) ∧ AW d 28 29 [l0, l1, l2, l3] [] (cI m a (jup (mI m a) (jx i) x)) Q := A_iastore hB_X3_addRule dX3_addRule_28
theorem dX3_addRule_29 : decode cX3_addRule 29 = .ok (.aload_n 0, 1) := by decide +kernel
theorem tX3_addRule_29 {d : Nat} {l1 l2 l3 : Option Value} {x : Nat} {m : jmM} {Q : Option Value → jmM → Prop} : AW d 28 29 [some (.ref x), l1, l2, l3] [] m Q ↔ AW d 28 30 [some (.ref x), l1, l2, l3] [.ref x] m Q := A_aload_n hB_X3_addRule dX3_addRule_29 rfl
theorem dX3_addRule_30 : decode cX3_addRule 30 = .ok (.getfield 25, 3) := by decide +kernel
theorem tX3_addRule_30 {d : Nat} {l0 l1 l2 l3 : Option Value} {a : Nat} {m : jmM} {Q : Option Value → jmM → Prop} : AW d 28 30 [l0, l1, l2, l3] [.ref a] m Q ↔ (mS m a).1 = 3 ∧ AW d 28 33 [l0, l1, l2, l3] [va_rf (mR m a 4)] m Q := A_getfield (f := fun m a => va_rf (mR m a 4)) hB_X3_addRule dX3_addRule_30 hO_X3_addRule fF_3_25 rfl
theorem dX3_addRule_33 : decode cX3_addRule 33 = .ok (.aload_n 0, 1) := by decide +kernel
theorem tX3_addRule_33 {d : Nat} {l1 l2 l3 : Option Value} {v0 : Value} {x : Nat} {m : jmM} {Q : Option Value → jmM → Prop} : AW d 28 33 [some (.ref x), l1, l2, l3] [v0] m Q ↔ AW d 28 34 [some (.ref x), l1, l2, l3] [.ref x, v0] m Q := A_aload_n hB_X3_addRule dX3_addRule_33 rfl
theorem dX3_addRule_34 : decode cX3_addRule 34 = .ok (.getfield 31, 3) := by decide +kernel
theorem tX3_addRule_34 {d : Nat} {l0 l1 l2 l3 : Option Value} {v1 : Value} {a : Nat} {m : jmM} {Q : Option Value → jmM → Prop} : AW d 28 34 [l0, l1, l2, l3] [.ref a, v1] m Q ↔ (mS m a).1 = 3 ∧ AW d 28 37 [l0, l1, l2, l3] [.int (mI m a 6), v1] m Q := A_getfield (f := fun m a => .int (mI m a 6)) hB_X3_addRule dX3_addRule_34 hO_X3_addRule fF_3_31 rfl
theorem dX3_addRule_37 : decode cX3_addRule 37 = .ok (.iload_n 3, 1) := by decide +kernel
theorem tX3_addRule_37 {d : Nat} {l0 l1 l2 : Option Value} {v0 v1 : Value} {x : Int32} {m : jmM} {Q : Option Value → jmM → Prop} : AW d 28 37 [l0, l1, l2, some (.int x)] [v0, v1] m Q ↔ AW d 28 38 [l0, l1, l2, some (.int x)] [.int x, v0, v1] m Q := A_iload_n hB_X3_addRule dX3_addRule_37 rfl
theorem dX3_addRule_38 : decode cX3_addRule 38 = .ok (.iastore, 1) := by decide +kernel
theorem tX3_addRule_38 {d : Nat} {l0 l1 l2 l3 : Option Value} {x i : Int32} {a : Nat} {m : jmM} {Q : Option Value → jmM → Prop} : AW d 28 38 [l0, l1, l2, l3] [.int x, .int i, .ref a] m Q ↔ ((mS m a).1 = 20 ∧ jIx i (mS m a).2) ∧ AW d 28 39 [l0, l1, l2, l3] [] (cI m a (jup (mI m a) (jx i) x)) Q := A_iastore hB_X3_addRule dX3_addRule_38
theorem dX3_addRule_39 : decode cX3_addRule 39 = .ok (.aload_n 0, 1) := by decide +kernel
theorem tX3_addRule_39 {d : Nat} {l1 l2 l3 : Option Value} {x : Nat} {m : jmM} {Q : Option Value → jmM → Prop} : AW d 28 39 [some (.ref x), l1, l2, l3] [] m Q ↔ AW d 28 40 [some (.ref x), l1, l2, l3] [.ref x] m Q := A_aload_n hB_X3_addRule dX3_addRule_39 rfl
theorem dX3_addRule_40 : decode cX3_addRule 40 = .ok (.getfield 28, 3) := by decide +kernel
theorem tX3_addRule_40 {d : Nat} {l0 l1 l2 l3 : Option Value} {a : Nat} {m : jmM} {Q : Option Value → jmM → Prop} : AW d 28 40 [l0, l1, l2, l3] [.ref a] m Q ↔ (mS m a).1 = 3 ∧ AW d 28 43 [l0, l1, l2, l3] [va_rf (mR m a 5)] m Q := A_getfield (f := fun m a => va_rf (mR m a 5)) hB_X3_addRule dX3_addRule_40 hO_X3_addRule fF_3_28 rfl
theorem dX3_addRule_43 : decode cX3_addRule 43 = .ok (.aload_n 0, 1) := by decide +kernel
theorem tX3_addRule_43 {d : Nat} {l1 l2 l3 : Option Value} {v0 : Value} {x : Nat} {m : jmM} {Q : Option Value → jmM → Prop} : AW d 28 43 [some (.ref x), l1, l2, l3] [v0] m Q ↔ AW d 28 44 [some (.ref x), l1, l2, l3] [.ref x, v0] m Q := A_aload_n hB_X3_addRule dX3_addRule_43 rfl
theorem dX3_addRule_44 : decode cX3_addRule 44 = .ok (.getfield 31, 3) := by decide +kernel
theorem tX3_addRule_44 {d : Nat} {l0 l1 l2 l3 : Option Value} {v1 : Value} {a : Nat} {m : jmM} {Q : Option Value → jmM → Prop} : AW d 28 44 [l0, l1, l2, l3] [.ref a, v1] m Q ↔ (mS m a).1 = 3 ∧ AW d 28 47 [l0, l1, l2, l3] [.int (mI m a 6), v1] m Q := A_getfield (f := fun m a => .int (mI m a 6)) hB_X3_addRule dX3_addRule_44 hO_X3_addRule fF_3_31 rfl
theorem dX3_addRule_47 : decode cX3_addRule 47 = .ok (.aload_n 0, 1) := by decide +kernel
theorem tX3_addRule_47 {d : Nat} {l1 l2 l3 : Option Value} {v0 v1 : Value} {x : Nat} {m : jmM} {Q : Option Value → jmM → Prop} : AW d 28 47 [some (.ref x), l1, l2, l3] [v0, v1] m Q ↔ AW d 28 48 [some (.ref x), l1, l2, l3] [.ref x, v0, v1] m Q := A_aload_n hB_X3_addRule dX3_addRule_47 rfl
theorem dX3_addRule_48 : decode cX3_addRule 48 = .ok (.getfield 15, 3) := by decide +kernel
theorem tX3_addRule_48 {d : Nat} {l0 l1 l2 l3 : Option Value} {v1 v2 : Value} {a : Nat} {m : jmM} {Q : Option Value → jmM → Prop} : AW d 28 48 [l0, l1, l2, l3] [.ref a, v1, v2] m Q ↔ (mS m a).1 = 3 ∧ AW d 28 51 [l0, l1, l2, l3] [.int (mI m a 1), v1, v2] m Q := A_getfield (f := fun m a => .int (mI m a 1)) hB_X3_addRule dX3_addRule_48 hO_X3_addRule fF_3_15 rfl
theorem dX3_addRule_51 : decode cX3_addRule 51 = .ok (.iastore, 1) := by decide +kernel
theorem tX3_addRule_51 {d : Nat} {l0 l1 l2 l3 : Option Value} {x i : Int32} {a : Nat} {m : jmM} {Q : Option Value → jmM → Prop} : AW d 28 51 [l0, l1, l2, l3] [.int x, .int i, .ref a] m Q ↔ ((mS m a).1 = 20 ∧ jIx i (mS m a).2) ∧ AW d 28 52 [l0, l1, l2, l3] [] (cI m a (jup (mI m a) (jx i) x)) Q := A_iastore hB_X3_addRule dX3_addRule_51
theorem dX3_addRule_52 : decode cX3_addRule 52 = .ok (.aload_n 0, 1) := by decide +kernel
theorem tX3_addRule_52 {d : Nat} {l1 l2 l3 : Option Value} {x : Nat} {m : jmM} {Q : Option Value → jmM → Prop} : AW d 28 52 [some (.ref x), l1, l2, l3] [] m Q ↔ AW d 28 53 [some (.ref x), l1, l2, l3] [.ref x] m Q := A_aload_n hB_X3_addRule dX3_addRule_52 rfl
theorem dX3_addRule_53 : decode cX3_addRule 53 = .ok (.dup, 1) := by decide +kernel
theorem tX3_addRule_53 {d : Nat} {l0 l1 l2 l3 : Option Value} {x : Nat} {m : jmM} {Q : Option Value → jmM → Prop} : AW d 28 53 [l0, l1, l2, l3] [.ref x] m Q ↔ AW d 28 54 [l0, l1, l2, l3] [.ref x, .ref x] m Q := A_dup_a hB_X3_addRule dX3_addRule_53
theorem dX3_addRule_54 : decode cX3_addRule 54 = .ok (.getfield 31, 3) := by decide +kernel
theorem tX3_addRule_54 {d : Nat} {l0 l1 l2 l3 : Option Value} {v1 : Value} {a : Nat} {m : jmM} {Q : Option Value → jmM → Prop} : AW d 28 54 [l0, l1, l2, l3] [.ref a, v1] m Q ↔ (mS m a).1 = 3 ∧ AW d 28 57 [l0, l1, l2, l3] [.int (mI m a 6), v1] m Q := A_getfield (f := fun m a => .int (mI m a 6)) hB_X3_addRule dX3_addRule_54 hO_X3_addRule fF_3_31 rfl
theorem dX3_addRule_57 : decode cX3_addRule 57 = .ok (.iconst 1, 1) := by decide +kernel
theorem tX3_addRule_57 {d : Nat} {l0 l1 l2 l3 : Option Value} {v0 v1 : Value} {m : jmM} {Q : Option Value → jmM → Prop} : AW d 28 57 [l0, l1, l2, l3] [v0, v1] m Q ↔ AW d 28 58 [l0, l1, l2, l3] [.int 1, v0, v1] m Q := A_iconst hB_X3_addRule dX3_addRule_57 (by decide)
theorem dX3_addRule_58 : decode cX3_addRule 58 = .ok (.iadd, 1) := by decide +kernel
theorem tX3_addRule_58 {d : Nat} {l0 l1 l2 l3 : Option Value} {v2 : Value} {x y : Int32} {m : jmM} {Q : Option Value → jmM → Prop} : AW d 28 58 [l0, l1, l2, l3] [.int y, .int x, v2] m Q ↔ AW d 28 59 [l0, l1, l2, l3] [.int (x + y), v2] m Q := A_iadd hB_X3_addRule dX3_addRule_58
theorem dX3_addRule_59 : decode cX3_addRule 59 = .ok (.putfield 31, 3) := by decide +kernel
theorem tX3_addRule_59 {d : Nat} {l0 l1 l2 l3 : Option Value} {x : Int32} {a : Nat} {m : jmM} {Q : Option Value → jmM → Prop} : AW d 28 59 [l0, l1, l2, l3] [.int x, .ref a] m Q ↔ (mS m a).1 = 3 ∧ AW d 28 62 [l0, l1, l2, l3] [] (cI m a (jup (mI m a) 6 x)) Q := A_putI hB_X3_addRule dX3_addRule_59 hO_X3_addRule fF_3_31 rfl (fun h => Bool.noConfusion h)
theorem dX3_addRule_62 : decode cX3_addRule 62 = .ok (.return_, 1) := by decide +kernel
theorem tX3_addRule_62 {d : Nat} {l0 l1 l2 l3 : Option Value} {m : jmM} {Q : Option Value → jmM → Prop} : AW d 28 62 [l0, l1, l2, l3] [] m Q ↔ Q none m := A_return hB_X3_addRule dX3_addRule_62 hR_X3_addRule
theorem hB_X3_setNumber : jB 29 = cX3_setNumber := rfl
theorem hO_X3_setNumber : jO 29 = 3 := rfl
theorem hR_X3_setNumber : jRt 29 = none := rfl
theorem nX3_setNumber (d : Nat) (x0 : Nat) (x1 : Int32) (x2 : Int32) (m : jmM) (Q : Option Value → jmM → Prop) : CC (d + 1) 29 [.ref x0, .int x1, .int x2] m Q ↔ AW d 29 0 [some (.ref x0), some (.int x1), some (.int x2)] [] m Q := CC_body (Nat.le_of_ble_eq_true rfl)
theorem dX3_setNumber_0 : decode cX3_setNumber 0 = .ok (.iload_n 1, 1) := by decide +kernel
theorem tX3_setNumber_0 {d : Nat} {l0 l2 : Option Value} {x : Int32} {m : jmM} {Q : Option Value → jmM → Prop} : AW d 29 0 [l0, some (.int x), l2] [] m Q ↔ AW d 29 1 [l0, some (.int x), l2] [.int x] m Q := A_iload_n hB_X3_setNumber dX3_setNumber_0 rfl
theorem dX3_setNumber_1 : decode cX3_setNumber 1 = .ok (.iconst 3, 1) := by decide +kernel
theorem tX3_setNumber_1 {d : Nat} {l0 l1 l2 : Option Value} {v0 : Value} {m : jmM} {Q : Option Value → jmM → Prop} : AW d 29 1 [l0, l1, l2] [v0] m Q ↔ AW d 29 2 [l0, l1, l2] [.int 3, v0] m Q := A_iconst hB_X3_setNumber dX3_setNumber_1 (by decide)
theorem dX3_setNumber_2 : decode cX3_setNumber 2 = .ok (.if_icmp .ne 11, 3) := by decide +kernel
theorem tX3_setNumber_2 {d : Nat} {l0 l1 l2 : Option Value} {x y : Int32} {m : jmM} {Q : Option Value → jmM → Prop} : AW d 29 2 [l0, l1, l2] [.int y, .int x] m Q ↔ if x = y then AW d 29 5 [l0, l1, l2] [] m Q else AW d 29 13 [l0, l1, l2] [] m Q := A_icmp_ne hB_X3_setNumber dX3_setNumber_2 (by decide)
theorem dX3_setNumber_5 : decode cX3_setNumber 5 = .ok (.aload_n 0, 1) := by decide +kernel
theorem tX3_setNumber_5 {d : Nat} {l1 l2 : Option Value} {x : Nat} {m : jmM} {Q : Option Value → jmM → Prop} : AW d 29 5 [some (.ref x), l1, l2] [] m Q ↔ AW d 29 6 [some (.ref x), l1, l2] [.ref x] m Q := A_aload_n hB_X3_setNumber dX3_setNumber_5 rfl
theorem dX3_setNumber_6 : decode cX3_setNumber 6 = .ok (.iload_n 2, 1) := by decide +kernel
theorem tX3_setNumber_6 {d : Nat} {l0 l1 : Option Value} {v0 : Value} {x : Int32} {m : jmM} {Q : Option Value → jmM → Prop} : AW d 29 6 [l0, l1, some (.int x)] [v0] m Q ↔ AW d 29 7 [l0, l1, some (.int x)] [.int x, v0] m Q := A_iload_n hB_X3_setNumber dX3_setNumber_6 rfl
theorem dX3_setNumber_7 : decode cX3_setNumber 7 = .ok (.putfield 34, 3) := by decide +kernel
theorem tX3_setNumber_7 {d : Nat} {l0 l1 l2 : Option Value} {x : Int32} {a : Nat} {m : jmM} {Q : Option Value → jmM → Prop} : AW d 29 7 [l0, l1, l2] [.int x, .ref a] m Q ↔ (mS m a).1 = 3 ∧ AW d 29 10 [l0, l1, l2] [] (cI m a (jup (mI m a) 7 x)) Q := A_putI hB_X3_setNumber dX3_setNumber_7 hO_X3_setNumber fF_3_34 rfl (fun h => Bool.noConfusion h)
theorem dX3_setNumber_10 : decode cX3_setNumber 10 = .ok (.goto 21, 3) := by decide +kernel
theorem tX3_setNumber_10 {d : Nat} {l0 l1 l2 : Option Value} {m : jmM} {Q : Option Value → jmM → Prop} : AW d 29 10 [l0, l1, l2] [] m Q ↔ AW d 29 31 [l0, l1, l2] [] m Q := A_goto hB_X3_setNumber dX3_setNumber_10 (by decide)
theorem dX3_setNumber_13 : decode cX3_setNumber 13 = .ok (.iload_n 1, 1) := by decide +kernel
theorem tX3_setNumber_13 {d : Nat} {l0 l2 : Option Value} {x : Int32} {m : jmM} {Q : Option Value → jmM → Prop} : AW d 29 13 [l0, some (.int x), l2] [] m Q ↔ AW d 29 14 [l0, some (.int x), l2] [.int x] m Q := A_iload_n hB_X3_setNumber dX3_setNumber_13 rfl
theorem dX3_setNumber_14 : decode cX3_setNumber 14 = .ok (.iconst 4, 1) := by decide +kernel
theorem tX3_setNumber_14 {d : Nat} {l0 l1 l2 : Option Value} {v0 : Value} {m : jmM} {Q : Option Value → jmM → Prop} : AW d 29 14 [l0, l1, l2] [v0] m Q ↔ AW d 29 15 [l0, l1, l2] [.int 4, v0] m Q := A_iconst hB_X3_setNumber dX3_setNumber_14 (by decide)
theorem dX3_setNumber_15 : decode cX3_setNumber 15 = .ok (.if_icmp .ne 11, 3) := by decide +kernel
theorem tX3_setNumber_15 {d : Nat} {l0 l1 l2 : Option Value} {x y : Int32} {m : jmM} {Q : Option Value → jmM → Prop} : AW d 29 15 [l0, l1, l2] [.int y, .int x] m Q ↔ if x = y then AW d 29 18 [l0, l1, l2] [] m Q else AW d 29 26 [l0, l1, l2] [] m Q := A_icmp_ne hB_X3_setNumber dX3_setNumber_15 (by decide)
theorem dX3_setNumber_18 : decode cX3_setNumber 18 = .ok (.aload_n 0, 1) := by decide +kernel
theorem tX3_setNumber_18 {d : Nat} {l1 l2 : Option Value} {x : Nat} {m : jmM} {Q : Option Value → jmM → Prop} : AW d 29 18 [some (.ref x), l1, l2] [] m Q ↔ AW d 29 19 [some (.ref x), l1, l2] [.ref x] m Q := A_aload_n hB_X3_setNumber dX3_setNumber_18 rfl
theorem dX3_setNumber_19 : decode cX3_setNumber 19 = .ok (.iload_n 2, 1) := by decide +kernel
theorem tX3_setNumber_19 {d : Nat} {l0 l1 : Option Value} {v0 : Value} {x : Int32} {m : jmM} {Q : Option Value → jmM → Prop} : AW d 29 19 [l0, l1, some (.int x)] [v0] m Q ↔ AW d 29 20 [l0, l1, some (.int x)] [.int x, v0] m Q := A_iload_n hB_X3_setNumber dX3_setNumber_19 rfl
theorem dX3_setNumber_20 : decode cX3_setNumber 20 = .ok (.putfield 37, 3) := by decide +kernel
theorem tX3_setNumber_20 {d : Nat} {l0 l1 l2 : Option Value} {x : Int32} {a : Nat} {m : jmM} {Q : Option Value → jmM → Prop} : AW d 29 20 [l0, l1, l2] [.int x, .ref a] m Q ↔ (mS m a).1 = 3 ∧ AW d 29 23 [l0, l1, l2] [] (cI m a (jup (mI m a) 8 x)) Q := A_putI hB_X3_setNumber dX3_setNumber_20 hO_X3_setNumber fF_3_37 rfl (fun h => Bool.noConfusion h)
theorem dX3_setNumber_23 : decode cX3_setNumber 23 = .ok (.goto 8, 3) := by decide +kernel
theorem tX3_setNumber_23 {d : Nat} {l0 l1 l2 : Option Value} {m : jmM} {Q : Option Value → jmM → Prop} : AW d 29 23 [l0, l1, l2] [] m Q ↔ AW d 29 31 [l0, l1, l2] [] m Q := A_goto hB_X3_setNumber dX3_setNumber_23 (by decide)
theorem dX3_setNumber_26 : decode cX3_setNumber 26 = .ok (.aload_n 0, 1) := by decide +kernel
theorem tX3_setNumber_26 {d : Nat} {l1 l2 : Option Value} {x : Nat} {m : jmM} {Q : Option Value → jmM → Prop} : AW d 29 26 [some (.ref x), l1, l2] [] m Q ↔ AW d 29 27 [some (.ref x), l1, l2] [.ref x] m Q := A_aload_n hB_X3_setNumber dX3_setNumber_26 rfl
theorem dX3_setNumber_27 : decode cX3_setNumber 27 = .ok (.iload_n 2, 1) := by decide +kernel
theorem tX3_setNumber_27 {d : Nat} {l0 l1 : Option Value} {v0 : Value} {x : Int32} {m : jmM} {Q : Option Value → jmM → Prop} : AW d 29 27 [l0, l1, some (.int x)] [v0] m Q ↔ AW d 29 28 [l0, l1, some (.int x)] [.int x, v0] m Q := A_iload_n hB_X3_setNumber dX3_setNumber_27 rfl
theorem dX3_setNumber_28 : decode cX3_setNumber 28 = .ok (.putfield 40, 3) := by decide +kernel
theorem tX3_setNumber_28 {d : Nat} {l0 l1 l2 : Option Value} {x : Int32} {a : Nat} {m : jmM} {Q : Option Value → jmM → Prop} : AW d 29 28 [l0, l1, l2] [.int x, .ref a] m Q ↔ (mS m a).1 = 3 ∧ AW d 29 31 [l0, l1, l2] [] (cI m a (jup (mI m a) 9 x)) Q := A_putI hB_X3_setNumber dX3_setNumber_28 hO_X3_setNumber fF_3_40 rfl (fun h => Bool.noConfusion h)
theorem dX3_setNumber_31 : decode cX3_setNumber 31 = .ok (.return_, 1) := by decide +kernel
theorem tX3_setNumber_31 {d : Nat} {l0 l1 l2 : Option Value} {m : jmM} {Q : Option Value → jmM → Prop} : AW d 29 31 [l0, l1, l2] [] m Q ↔ Q none m := A_return hB_X3_setNumber dX3_setNumber_31 hR_X3_setNumber
theorem hB_X3_hasNumber : jB 30 = cX3_hasNumber := rfl
theorem hO_X3_hasNumber : jO 30 = 3 := rfl
theorem hR_X3_hasNumber : jRt 30 = (some .boolean) := rfl
theorem nX3_hasNumber (d : Nat) (x0 : Nat) (x1 : Int32) (m : jmM) (Q : Option Value → jmM → Prop) : CC (d + 1) 30 [.ref x0, .int x1] m Q ↔ AW d 30 0 [some (.ref x0), some (.int x1)] [] m Q := CC_body (Nat.le_of_ble_eq_true rfl)
theorem dX3_hasNumber_0 : decode cX3_hasNumber 0 = .ok (.iload_n 1, 1) := by decide +kernel
theorem tX3_hasNumber_0 {d : Nat} {l0 : Option Value} {x : Int32} {m : jmM} {Q : Option Value → jmM → Prop} : AW d 30 0 [l0, some (.int x)] [] m Q ↔ AW d 30 1 [l0, some (.int x)] [.int x] m Q := A_iload_n hB_X3_hasNumber dX3_hasNumber_0 rfl
theorem dX3_hasNumber_1 : decode cX3_hasNumber 1 = .ok (.iconst 3, 1) := by decide +kernel
theorem tX3_hasNumber_1 {d : Nat} {l0 l1 : Option Value} {v0 : Value} {m : jmM} {Q : Option Value → jmM → Prop} : AW d 30 1 [l0, l1] [v0] m Q ↔ AW d 30 2 [l0, l1] [.int 3, v0] m Q := A_iconst hB_X3_hasNumber dX3_hasNumber_1 (by decide)
theorem dX3_hasNumber_2 : decode cX3_hasNumber 2 = .ok (.if_icmp .ne 11, 3) := by decide +kernel
theorem tX3_hasNumber_2 {d : Nat} {l0 l1 : Option Value} {x y : Int32} {m : jmM} {Q : Option Value → jmM → Prop} : AW d 30 2 [l0, l1] [.int y, .int x] m Q ↔ if x = y then AW d 30 5 [l0, l1] [] m Q else AW d 30 13 [l0, l1] [] m Q := A_icmp_ne hB_X3_hasNumber dX3_hasNumber_2 (by decide)
theorem dX3_hasNumber_5 : decode cX3_hasNumber 5 = .ok (.aload_n 0, 1) := by decide +kernel
theorem tX3_hasNumber_5 {d : Nat} {l1 : Option Value} {x : Nat} {m : jmM} {Q : Option Value → jmM → Prop} : AW d 30 5 [some (.ref x), l1] [] m Q ↔ AW d 30 6 [some (.ref x), l1] [.ref x] m Q := A_aload_n hB_X3_hasNumber dX3_hasNumber_5 rfl
theorem dX3_hasNumber_6 : decode cX3_hasNumber 6 = .ok (.getfield 34, 3) := by decide +kernel
theorem tX3_hasNumber_6 {d : Nat} {l0 l1 : Option Value} {a : Nat} {m : jmM} {Q : Option Value → jmM → Prop} : AW d 30 6 [l0, l1] [.ref a] m Q ↔ (mS m a).1 = 3 ∧ AW d 30 9 [l0, l1] [.int (mI m a 7)] m Q := A_getfield (f := fun m a => .int (mI m a 7)) hB_X3_hasNumber dX3_hasNumber_6 hO_X3_hasNumber fF_3_34 rfl
theorem dX3_hasNumber_9 : decode cX3_hasNumber 9 = .ok (.iconst (-1), 1) := by decide +kernel
theorem tX3_hasNumber_9 {d : Nat} {l0 l1 : Option Value} {v0 : Value} {m : jmM} {Q : Option Value → jmM → Prop} : AW d 30 9 [l0, l1] [v0] m Q ↔ AW d 30 10 [l0, l1] [.int (-1), v0] m Q := A_iconst hB_X3_hasNumber dX3_hasNumber_9 (by decide)
theorem dX3_hasNumber_10 : decode cX3_hasNumber 10 = .ok (.if_icmp .ne 29, 3) := by decide +kernel
theorem tX3_hasNumber_10 {d : Nat} {l0 l1 : Option Value} {x y : Int32} {m : jmM} {Q : Option Value → jmM → Prop} : AW d 30 10 [l0, l1] [.int y, .int x] m Q ↔ if x = y then AW d 30 13 [l0, l1] [] m Q else AW d 30 39 [l0, l1] [] m Q := A_icmp_ne hB_X3_hasNumber dX3_hasNumber_10 (by decide)
theorem dX3_hasNumber_13 : decode cX3_hasNumber 13 = .ok (.iload_n 1, 1) := by decide +kernel
theorem tX3_hasNumber_13 {d : Nat} {l0 : Option Value} {x : Int32} {m : jmM} {Q : Option Value → jmM → Prop} : AW d 30 13 [l0, some (.int x)] [] m Q ↔ AW d 30 14 [l0, some (.int x)] [.int x] m Q := A_iload_n hB_X3_hasNumber dX3_hasNumber_13 rfl
theorem dX3_hasNumber_14 : decode cX3_hasNumber 14 = .ok (.iconst 4, 1) := by decide +kernel
theorem tX3_hasNumber_14 {d : Nat} {l0 l1 : Option Value} {v0 : Value} {m : jmM} {Q : Option Value → jmM → Prop} : AW d 30 14 [l0, l1] [v0] m Q ↔ AW d 30 15 [l0, l1] [.int 4, v0] m Q := A_iconst hB_X3_hasNumber dX3_hasNumber_14 (by decide)
theorem dX3_hasNumber_15 : decode cX3_hasNumber 15 = .ok (.if_icmp .ne 11, 3) := by decide +kernel
theorem tX3_hasNumber_15 {d : Nat} {l0 l1 : Option Value} {x y : Int32} {m : jmM} {Q : Option Value → jmM → Prop} : AW d 30 15 [l0, l1] [.int y, .int x] m Q ↔ if x = y then AW d 30 18 [l0, l1] [] m Q else AW d 30 26 [l0, l1] [] m Q := A_icmp_ne hB_X3_hasNumber dX3_hasNumber_15 (by decide)
theorem dX3_hasNumber_18 : decode cX3_hasNumber 18 = .ok (.aload_n 0, 1) := by decide +kernel
theorem tX3_hasNumber_18 {d : Nat} {l1 : Option Value} {x : Nat} {m : jmM} {Q : Option Value → jmM → Prop} : AW d 30 18 [some (.ref x), l1] [] m Q ↔ AW d 30 19 [some (.ref x), l1] [.ref x] m Q := A_aload_n hB_X3_hasNumber dX3_hasNumber_18 rfl
theorem dX3_hasNumber_19 : decode cX3_hasNumber 19 = .ok (.getfield 37, 3) := by decide +kernel
theorem tX3_hasNumber_19 {d : Nat} {l0 l1 : Option Value} {a : Nat} {m : jmM} {Q : Option Value → jmM → Prop} : AW d 30 19 [l0, l1] [.ref a] m Q ↔ (mS m a).1 = 3 ∧ AW d 30 22 [l0, l1] [.int (mI m a 8)] m Q := A_getfield (f := fun m a => .int (mI m a 8)) hB_X3_hasNumber dX3_hasNumber_19 hO_X3_hasNumber fF_3_37 rfl
theorem dX3_hasNumber_22 : decode cX3_hasNumber 22 = .ok (.iconst (-1), 1) := by decide +kernel
theorem tX3_hasNumber_22 {d : Nat} {l0 l1 : Option Value} {v0 : Value} {m : jmM} {Q : Option Value → jmM → Prop} : AW d 30 22 [l0, l1] [v0] m Q ↔ AW d 30 23 [l0, l1] [.int (-1), v0] m Q := A_iconst hB_X3_hasNumber dX3_hasNumber_22 (by decide)
theorem dX3_hasNumber_23 : decode cX3_hasNumber 23 = .ok (.if_icmp .ne 16, 3) := by decide +kernel
theorem tX3_hasNumber_23 {d : Nat} {l0 l1 : Option Value} {x y : Int32} {m : jmM} {Q : Option Value → jmM → Prop} : AW d 30 23 [l0, l1] [.int y, .int x] m Q ↔ if x = y then AW d 30 26 [l0, l1] [] m Q else AW d 30 39 [l0, l1] [] m Q := A_icmp_ne hB_X3_hasNumber dX3_hasNumber_23 (by decide)
theorem dX3_hasNumber_26 : decode cX3_hasNumber 26 = .ok (.iload_n 1, 1) := by decide +kernel
theorem tX3_hasNumber_26 {d : Nat} {l0 : Option Value} {x : Int32} {m : jmM} {Q : Option Value → jmM → Prop} : AW d 30 26 [l0, some (.int x)] [] m Q ↔ AW d 30 27 [l0, some (.int x)] [.int x] m Q := A_iload_n hB_X3_hasNumber dX3_hasNumber_26 rfl
theorem dX3_hasNumber_27 : decode cX3_hasNumber 27 = .ok (.iconst 5, 1) := by decide +kernel
theorem tX3_hasNumber_27 {d : Nat} {l0 l1 : Option Value} {v0 : Value} {m : jmM} {Q : Option Value → jmM → Prop} : AW d 30 27 [l0, l1] [v0] m Q ↔ AW d 30 28 [l0, l1] [.int 5, v0] m Q := A_iconst hB_X3_hasNumber dX3_hasNumber_27 (by decide)
theorem dX3_hasNumber_28 : decode cX3_hasNumber 28 = .ok (.if_icmp .ne 15, 3) := by decide +kernel
theorem tX3_hasNumber_28 {d : Nat} {l0 l1 : Option Value} {x y : Int32} {m : jmM} {Q : Option Value → jmM → Prop} : AW d 30 28 [l0, l1] [.int y, .int x] m Q ↔ if x = y then AW d 30 31 [l0, l1] [] m Q else AW d 30 43 [l0, l1] [] m Q := A_icmp_ne hB_X3_hasNumber dX3_hasNumber_28 (by decide)
theorem dX3_hasNumber_31 : decode cX3_hasNumber 31 = .ok (.aload_n 0, 1) := by decide +kernel
theorem tX3_hasNumber_31 {d : Nat} {l1 : Option Value} {x : Nat} {m : jmM} {Q : Option Value → jmM → Prop} : AW d 30 31 [some (.ref x), l1] [] m Q ↔ AW d 30 32 [some (.ref x), l1] [.ref x] m Q := A_aload_n hB_X3_hasNumber dX3_hasNumber_31 rfl
theorem dX3_hasNumber_32 : decode cX3_hasNumber 32 = .ok (.getfield 40, 3) := by decide +kernel
theorem tX3_hasNumber_32 {d : Nat} {l0 l1 : Option Value} {a : Nat} {m : jmM} {Q : Option Value → jmM → Prop} : AW d 30 32 [l0, l1] [.ref a] m Q ↔ (mS m a).1 = 3 ∧ AW d 30 35 [l0, l1] [.int (mI m a 9)] m Q := A_getfield (f := fun m a => .int (mI m a 9)) hB_X3_hasNumber dX3_hasNumber_32 hO_X3_hasNumber fF_3_40 rfl
theorem dX3_hasNumber_35 : decode cX3_hasNumber 35 = .ok (.iconst (-1), 1) := by decide +kernel
theorem tX3_hasNumber_35 {d : Nat} {l0 l1 : Option Value} {v0 : Value} {m : jmM} {Q : Option Value → jmM → Prop} : AW d 30 35 [l0, l1] [v0] m Q ↔ AW d 30 36 [l0, l1] [.int (-1), v0] m Q := A_iconst hB_X3_hasNumber dX3_hasNumber_35 (by decide)
theorem dX3_hasNumber_36 : decode cX3_hasNumber 36 = .ok (.if_icmp .eq 7, 3) := by decide +kernel
theorem tX3_hasNumber_36 {d : Nat} {l0 l1 : Option Value} {x y : Int32} {m : jmM} {Q : Option Value → jmM → Prop} : AW d 30 36 [l0, l1] [.int y, .int x] m Q ↔ if x = y then AW d 30 43 [l0, l1] [] m Q else AW d 30 39 [l0, l1] [] m Q := A_icmp_eq hB_X3_hasNumber dX3_hasNumber_36 (by decide)
theorem dX3_hasNumber_39 : decode cX3_hasNumber 39 = .ok (.iconst 1, 1) := by decide +kernel
theorem tX3_hasNumber_39 {d : Nat} {l0 l1 : Option Value} {m : jmM} {Q : Option Value → jmM → Prop} : AW d 30 39 [l0, l1] [] m Q ↔ AW d 30 40 [l0, l1] [.int 1] m Q := A_iconst hB_X3_hasNumber dX3_hasNumber_39 (by decide)
theorem dX3_hasNumber_40 : decode cX3_hasNumber 40 = .ok (.goto 4, 3) := by decide +kernel
theorem tX3_hasNumber_40 {d : Nat} {l0 l1 : Option Value} {v0 : Value} {m : jmM} {Q : Option Value → jmM → Prop} : AW d 30 40 [l0, l1] [v0] m Q ↔ AW d 30 44 [l0, l1] [v0] m Q := A_goto hB_X3_hasNumber dX3_hasNumber_40 (by decide)
theorem dX3_hasNumber_43 : decode cX3_hasNumber 43 = .ok (.iconst 0, 1) := by decide +kernel
theorem tX3_hasNumber_43 {d : Nat} {l0 l1 : Option Value} {m : jmM} {Q : Option Value → jmM → Prop} : AW d 30 43 [l0, l1] [] m Q ↔ AW d 30 44 [l0, l1] [.int 0] m Q := A_iconst hB_X3_hasNumber dX3_hasNumber_43 (by decide)
theorem dX3_hasNumber_44 : decode cX3_hasNumber 44 = .ok (.ireturn, 1) := by decide +kernel
theorem tX3_hasNumber_44 {d : Nat} {l0 l1 : Option Value} {x : Int32} {m : jmM} {Q : Option Value → jmM → Prop} : AW d 30 44 [l0, l1] [.int x] m Q ↔ jBool x ∧ Q (some (.int x)) m := A_zreturn hB_X3_hasNumber dX3_hasNumber_44 hR_X3_hasNumber
theorem hB_X3_size : jB 31 = cX3_size := rfl
theorem hO_X3_size : jO 31 = 3 := rfl
theorem hR_X3_size : jRt 31 = (some .int) := rfl
theorem nX3_size (d : Nat) (x0 : Nat) (m : jmM) (Q : Option Value → jmM → Prop) : CC (d + 1) 31 [.ref x0] m Q ↔ AW d 31 0 [some (.ref x0)] [] m Q := CC_body (Nat.le_of_ble_eq_true rfl)
theorem dX3_size_0 : decode cX3_size 0 = .ok (.aload_n 0, 1) := by decide +kernel
theorem tX3_size_0 {d : Nat} {x : Nat} {m : jmM} {Q : Option Value → jmM → Prop} : AW d 31 0 [some (.ref x)] [] m Q ↔ AW d 31 1 [some (.ref x)] [.ref x] m Q := A_aload_n hB_X3_size dX3_size_0 rfl
theorem dX3_size_1 : decode cX3_size 1 = .ok (.getfield 15, 3) := by decide +kernel
theorem tX3_size_1 {d : Nat} {l0 : Option Value} {a : Nat} {m : jmM} {Q : Option Value → jmM → Prop} : AW d 31 1 [l0] [.ref a] m Q ↔ (mS m a).1 = 3 ∧ AW d 31 4 [l0] [.int (mI m a 1)] m Q := A_getfield (f := fun m a => .int (mI m a 1)) hB_X3_size dX3_size_1 hO_X3_size fF_3_15 rfl
theorem dX3_size_4 : decode cX3_size 4 = .ok (.ireturn, 1) := by decide +kernel
theorem tX3_size_4 {d : Nat} {l0 : Option Value} {x : Int32} {m : jmM} {Q : Option Value → jmM → Prop} : AW d 31 4 [l0] [.int x] m Q ↔ Q (some (.int x)) m := A_ireturn hB_X3_size dX3_size_4 hR_X3_size
theorem hB_X3_rules : jB 32 = cX3_rules := rfl
theorem hO_X3_rules : jO 32 = 3 := rfl
theorem hR_X3_rules : jRt 32 = (some .int) := rfl
theorem nX3_rules (d : Nat) (x0 : Nat) (m : jmM) (Q : Option Value → jmM → Prop) : CC (d + 1) 32 [.ref x0] m Q ↔ AW d 32 0 [some (.ref x0)] [] m Q := CC_body (Nat.le_of_ble_eq_true rfl)
theorem dX3_rules_0 : decode cX3_rules 0 = .ok (.aload_n 0, 1) := by decide +kernel
theorem tX3_rules_0 {d : Nat} {x : Nat} {m : jmM} {Q : Option Value → jmM → Prop} : AW d 32 0 [some (.ref x)] [] m Q ↔ AW d 32 1 [some (.ref x)] [.ref x] m Q := A_aload_n hB_X3_rules dX3_rules_0 rfl
theorem dX3_rules_1 : decode cX3_rules 1 = .ok (.getfield 31, 3) := by decide +kernel
theorem tX3_rules_1 {d : Nat} {l0 : Option Value} {a : Nat} {m : jmM} {Q : Option Value → jmM → Prop} : AW d 32 1 [l0] [.ref a] m Q ↔ (mS m a).1 = 3 ∧ AW d 32 4 [l0] [.int (mI m a 6)] m Q := A_getfield (f := fun m a => .int (mI m a 6)) hB_X3_rules dX3_rules_1 hO_X3_rules fF_3_31 rfl
theorem dX3_rules_4 : decode cX3_rules 4 = .ok (.ireturn, 1) := by decide +kernel
theorem tX3_rules_4 {d : Nat} {l0 : Option Value} {x : Int32} {m : jmM} {Q : Option Value → jmM → Prop} : AW d 32 4 [l0] [.int x] m Q ↔ Q (some (.int x)) m := A_ireturn hB_X3_rules dX3_rules_4 hR_X3_rules
theorem hB_X3_swirl : jB 33 = cX3_swirl := rfl
theorem hO_X3_swirl : jO 33 = 3 := rfl
theorem hR_X3_swirl : jRt 33 = (some .int) := rfl
theorem nX3_swirl (d : Nat) (x0 : Nat) (m : jmM) (Q : Option Value → jmM → Prop) : CC (d + 1) 33 [.ref x0] m Q ↔ AW d 33 0 [some (.ref x0)] [] m Q := CC_body (Nat.le_of_ble_eq_true rfl)
theorem dX3_swirl_0 : decode cX3_swirl 0 = .ok (.iconst 0, 1) := by decide +kernel
theorem tX3_swirl_0 {d : Nat} {l0 : Option Value} {m : jmM} {Q : Option Value → jmM → Prop} : AW d 33 0 [l0] [] m Q ↔ AW d 33 1 [l0] [.int 0] m Q := A_iconst hB_X3_swirl dX3_swirl_0 (by decide)
theorem dX3_swirl_1 : decode cX3_swirl 1 = .ok (.aload_n 0, 1) := by decide +kernel
theorem tX3_swirl_1 {d : Nat} {v0 : Value} {x : Nat} {m : jmM} {Q : Option Value → jmM → Prop} : AW d 33 1 [some (.ref x)] [v0] m Q ↔ AW d 33 2 [some (.ref x)] [.ref x, v0] m Q := A_aload_n hB_X3_swirl dX3_swirl_1 rfl
theorem dX3_swirl_2 : decode cX3_swirl 2 = .ok (.getfield 34, 3) := by decide +kernel
theorem tX3_swirl_2 {d : Nat} {l0 : Option Value} {v1 : Value} {a : Nat} {m : jmM} {Q : Option Value → jmM → Prop} : AW d 33 2 [l0] [.ref a, v1] m Q ↔ (mS m a).1 = 3 ∧ AW d 33 5 [l0] [.int (mI m a 7), v1] m Q := A_getfield (f := fun m a => .int (mI m a 7)) hB_X3_swirl dX3_swirl_2 hO_X3_swirl fF_3_34 rfl
theorem dX3_swirl_5 : decode cX3_swirl 5 = .ok (.invokestatic 49, 3) := by decide +kernel
theorem tX3_swirl_5 {d : Nat} {l0 : Option Value} {x y : Int32} {m : jmM} {Q : Option Value → jmM → Prop} : AW d 33 5 [l0] [.int y, .int x] m Q ↔ AW d 33 8 [l0] [.int (if x < y then y else x)] m Q := A_max hB_X3_swirl dX3_swirl_5 hO_X3_swirl fS_3_49 (Nat.le_of_ble_eq_true rfl)
theorem dX3_swirl_8 : decode cX3_swirl 8 = .ok (.ireturn, 1) := by decide +kernel
theorem tX3_swirl_8 {d : Nat} {l0 : Option Value} {x : Int32} {m : jmM} {Q : Option Value → jmM → Prop} : AW d 33 8 [l0] [.int x] m Q ↔ Q (some (.int x)) m := A_ireturn hB_X3_swirl dX3_swirl_8 hR_X3_swirl
theorem hB_X3_late : jB 34 = cX3_late := rfl
theorem hO_X3_late : jO 34 = 3 := rfl
theorem hR_X3_late : jRt 34 = (some .int) := rfl
theorem nX3_late (d : Nat) (x0 : Nat) (m : jmM) (Q : Option Value → jmM → Prop) : CC (d + 1) 34 [.ref x0] m Q ↔ AW d 34 0 [some (.ref x0)] [] m Q := CC_body (Nat.le_of_ble_eq_true rfl)
theorem dX3_late_0 : decode cX3_late 0 = .ok (.iconst 0, 1) := by decide +kernel
theorem tX3_late_0 {d : Nat} {l0 : Option Value} {m : jmM} {Q : Option Value → jmM → Prop} : AW d 34 0 [l0] [] m Q ↔ AW d 34 1 [l0] [.int 0] m Q := A_iconst hB_X3_late dX3_late_0 (by decide)
theorem dX3_late_1 : decode cX3_late 1 = .ok (.aload_n 0, 1) := by decide +kernel
theorem tX3_late_1 {d : Nat} {v0 : Value} {x : Nat} {m : jmM} {Q : Option Value → jmM → Prop} : AW d 34 1 [some (.ref x)] [v0] m Q ↔ AW d 34 2 [some (.ref x)] [.ref x, v0] m Q := A_aload_n hB_X3_late dX3_late_1 rfl
theorem dX3_late_2 : decode cX3_late 2 = .ok (.getfield 37, 3) := by decide +kernel
theorem tX3_late_2 {d : Nat} {l0 : Option Value} {v1 : Value} {a : Nat} {m : jmM} {Q : Option Value → jmM → Prop} : AW d 34 2 [l0] [.ref a, v1] m Q ↔ (mS m a).1 = 3 ∧ AW d 34 5 [l0] [.int (mI m a 8), v1] m Q := A_getfield (f := fun m a => .int (mI m a 8)) hB_X3_late dX3_late_2 hO_X3_late fF_3_37 rfl
theorem dX3_late_5 : decode cX3_late 5 = .ok (.invokestatic 49, 3) := by decide +kernel
theorem tX3_late_5 {d : Nat} {l0 : Option Value} {x y : Int32} {m : jmM} {Q : Option Value → jmM → Prop} : AW d 34 5 [l0] [.int y, .int x] m Q ↔ AW d 34 8 [l0] [.int (if x < y then y else x)] m Q := A_max hB_X3_late dX3_late_5 hO_X3_late fS_3_49 (Nat.le_of_ble_eq_true rfl)
theorem dX3_late_8 : decode cX3_late 8 = .ok (.ireturn, 1) := by decide +kernel
theorem tX3_late_8 {d : Nat} {l0 : Option Value} {x : Int32} {m : jmM} {Q : Option Value → jmM → Prop} : AW d 34 8 [l0] [.int x] m Q ↔ Q (some (.int x)) m := A_ireturn hB_X3_late dX3_late_8 hR_X3_late
theorem hB_X3_given : jB 35 = cX3_given := rfl
theorem hO_X3_given : jO 35 = 3 := rfl
theorem hR_X3_given : jRt 35 = (some .int) := rfl
theorem nX3_given (d : Nat) (x0 : Nat) (x1 : Int32) (m : jmM) (Q : Option Value → jmM → Prop) : CC (d + 1) 35 [.ref x0, .int x1] m Q ↔ AW d 35 0 [some (.ref x0), some (.int x1)] [] m Q := CC_body (Nat.le_of_ble_eq_true rfl)
theorem dX3_given_0 : decode cX3_given 0 = .ok (.iload_n 1, 1) := by decide +kernel
theorem tX3_given_0 {d : Nat} {l0 : Option Value} {x : Int32} {m : jmM} {Q : Option Value → jmM → Prop} : AW d 35 0 [l0, some (.int x)] [] m Q ↔ AW d 35 1 [l0, some (.int x)] [.int x] m Q := A_iload_n hB_X3_given dX3_given_0 rfl
theorem dX3_given_1 : decode cX3_given 1 = .ok (.iconst 5, 1) := by decide +kernel
theorem tX3_given_1 {d : Nat} {l0 l1 : Option Value} {v0 : Value} {m : jmM} {Q : Option Value → jmM → Prop} : AW d 35 1 [l0, l1] [v0] m Q ↔ AW d 35 2 [l0, l1] [.int 5, v0] m Q := A_iconst hB_X3_given dX3_given_1 (by decide)
theorem dX3_given_2 : decode cX3_given 2 = .ok (.if_icmp .ne 14, 3) := by decide +kernel
theorem tX3_given_2 {d : Nat} {l0 l1 : Option Value} {x y : Int32} {m : jmM} {Q : Option Value → jmM → Prop} : AW d 35 2 [l0, l1] [.int y, .int x] m Q ↔ if x = y then AW d 35 5 [l0, l1] [] m Q else AW d 35 16 [l0, l1] [] m Q := A_icmp_ne hB_X3_given dX3_given_2 (by decide)
theorem dX3_given_5 : decode cX3_given 5 = .ok (.iconst 0, 1) := by decide +kernel
theorem tX3_given_5 {d : Nat} {l0 l1 : Option Value} {m : jmM} {Q : Option Value → jmM → Prop} : AW d 35 5 [l0, l1] [] m Q ↔ AW d 35 6 [l0, l1] [.int 0] m Q := A_iconst hB_X3_given dX3_given_5 (by decide)
theorem dX3_given_6 : decode cX3_given 6 = .ok (.aload_n 0, 1) := by decide +kernel
theorem tX3_given_6 {d : Nat} {l1 : Option Value} {v0 : Value} {x : Nat} {m : jmM} {Q : Option Value → jmM → Prop} : AW d 35 6 [some (.ref x), l1] [v0] m Q ↔ AW d 35 7 [some (.ref x), l1] [.ref x, v0] m Q := A_aload_n hB_X3_given dX3_given_6 rfl
theorem dX3_given_7 : decode cX3_given 7 = .ok (.getfield 40, 3) := by decide +kernel
theorem tX3_given_7 {d : Nat} {l0 l1 : Option Value} {v1 : Value} {a : Nat} {m : jmM} {Q : Option Value → jmM → Prop} : AW d 35 7 [l0, l1] [.ref a, v1] m Q ↔ (mS m a).1 = 3 ∧ AW d 35 10 [l0, l1] [.int (mI m a 9), v1] m Q := A_getfield (f := fun m a => .int (mI m a 9)) hB_X3_given dX3_given_7 hO_X3_given fF_3_40 rfl
theorem dX3_given_10 : decode cX3_given 10 = .ok (.invokestatic 49, 3) := by decide +kernel
theorem tX3_given_10 {d : Nat} {l0 l1 : Option Value} {x y : Int32} {m : jmM} {Q : Option Value → jmM → Prop} : AW d 35 10 [l0, l1] [.int y, .int x] m Q ↔ AW d 35 13 [l0, l1] [.int (if x < y then y else x)] m Q := A_max hB_X3_given dX3_given_10 hO_X3_given fS_3_49 (Nat.le_of_ble_eq_true rfl)
theorem dX3_given_13 : decode cX3_given 13 = .ok (.goto 4, 3) := by decide +kernel
theorem tX3_given_13 {d : Nat} {l0 l1 : Option Value} {v0 : Value} {m : jmM} {Q : Option Value → jmM → Prop} : AW d 35 13 [l0, l1] [v0] m Q ↔ AW d 35 17 [l0, l1] [v0] m Q := A_goto hB_X3_given dX3_given_13 (by decide)
theorem dX3_given_16 : decode cX3_given 16 = .ok (.iconst 0, 1) := by decide +kernel
theorem tX3_given_16 {d : Nat} {l0 l1 : Option Value} {m : jmM} {Q : Option Value → jmM → Prop} : AW d 35 16 [l0, l1] [] m Q ↔ AW d 35 17 [l0, l1] [.int 0] m Q := A_iconst hB_X3_given dX3_given_16 (by decide)
theorem dX3_given_17 : decode cX3_given 17 = .ok (.ireturn, 1) := by decide +kernel
theorem tX3_given_17 {d : Nat} {l0 l1 : Option Value} {x : Int32} {m : jmM} {Q : Option Value → jmM → Prop} : AW d 35 17 [l0, l1] [.int x] m Q ↔ Q (some (.int x)) m := A_ireturn hB_X3_given dX3_given_17 hR_X3_given
theorem hB_X3_codeAt : jB 36 = cX3_codeAt := rfl
theorem hO_X3_codeAt : jO 36 = 3 := rfl
theorem hR_X3_codeAt : jRt 36 = (some .int) := rfl
theorem nX3_codeAt (d : Nat) (x0 : Nat) (x1 : Int32) (m : jmM) (Q : Option Value → jmM → Prop) : CC (d + 1) 36 [.ref x0, .int x1] m Q ↔ AW d 36 0 [some (.ref x0), some (.int x1)] [] m Q := CC_body (Nat.le_of_ble_eq_true rfl)
theorem dX3_codeAt_0 : decode cX3_codeAt 0 = .ok (.iload_n 1, 1) := by decide +kernel
theorem tX3_codeAt_0 {d : Nat} {l0 : Option Value} {x : Int32} {m : jmM} {Q : Option Value → jmM → Prop} : AW d 36 0 [l0, some (.int x)] [] m Q ↔ AW d 36 1 [l0, some (.int x)] [.int x] m Q := A_iload_n hB_X3_codeAt dX3_codeAt_0 rfl
theorem dX3_codeAt_1 : decode cX3_codeAt 1 = .ok (.ifCond .lt 21, 3) := by decide +kernel
theorem tX3_codeAt_1 {d : Nat} {l0 l1 : Option Value} {x : Int32} {m : jmM} {Q : Option Value → jmM → Prop} : AW d 36 1 [l0, l1] [.int x] m Q ↔ if x < 0 then AW d 36 22 [l0, l1] [] m Q else AW d 36 4 [l0, l1] [] m Q := A_if_lt hB_X3_codeAt dX3_codeAt_1 (by decide)
theorem dX3_codeAt_4 : decode cX3_codeAt 4 = .ok (.iload_n 1, 1) := by decide +kernel
theorem tX3_codeAt_4 {d : Nat} {l0 : Option Value} {x : Int32} {m : jmM} {Q : Option Value → jmM → Prop} : AW d 36 4 [l0, some (.int x)] [] m Q ↔ AW d 36 5 [l0, some (.int x)] [.int x] m Q := A_iload_n hB_X3_codeAt dX3_codeAt_4 rfl
theorem dX3_codeAt_5 : decode cX3_codeAt 5 = .ok (.aload_n 0, 1) := by decide +kernel
theorem tX3_codeAt_5 {d : Nat} {l1 : Option Value} {v0 : Value} {x : Nat} {m : jmM} {Q : Option Value → jmM → Prop} : AW d 36 5 [some (.ref x), l1] [v0] m Q ↔ AW d 36 6 [some (.ref x), l1] [.ref x, v0] m Q := A_aload_n hB_X3_codeAt dX3_codeAt_5 rfl
theorem dX3_codeAt_6 : decode cX3_codeAt 6 = .ok (.getfield 9, 3) := by decide +kernel
theorem tX3_codeAt_6 {d : Nat} {l0 l1 : Option Value} {v1 : Value} {a : Nat} {m : jmM} {Q : Option Value → jmM → Prop} : AW d 36 6 [l0, l1] [.ref a, v1] m Q ↔ (mS m a).1 = 3 ∧ AW d 36 9 [l0, l1] [va_rf (mR m a 0), v1] m Q := A_getfield (f := fun m a => va_rf (mR m a 0)) hB_X3_codeAt dX3_codeAt_6 hO_X3_codeAt fF_3_9 rfl
theorem dX3_codeAt_9 : decode cX3_codeAt 9 = .ok (.arraylength, 1) := by decide +kernel
theorem tX3_codeAt_9 {d : Nat} {l0 l1 : Option Value} {v1 : Value} {a : Nat} {m : jmM} {Q : Option Value → jmM → Prop} : AW d 36 9 [l0, l1] [.ref a, v1] m Q ↔ ((20 ≤ (mS m a).1 ∧ (mS m a).1 ≤ 26) ∨ a = jScr) ∧ AW d 36 10 [l0, l1] [.int (nI (mS m a).2), v1] m Q := A_arraylength hB_X3_codeAt dX3_codeAt_9
theorem dX3_codeAt_10 : decode cX3_codeAt 10 = .ok (.if_icmp .ge 12, 3) := by decide +kernel
theorem tX3_codeAt_10 {d : Nat} {l0 l1 : Option Value} {x y : Int32} {m : jmM} {Q : Option Value → jmM → Prop} : AW d 36 10 [l0, l1] [.int y, .int x] m Q ↔ if y ≤ x then AW d 36 22 [l0, l1] [] m Q else AW d 36 13 [l0, l1] [] m Q := A_icmp_ge hB_X3_codeAt dX3_codeAt_10 (by decide)
theorem dX3_codeAt_13 : decode cX3_codeAt 13 = .ok (.aload_n 0, 1) := by decide +kernel
theorem tX3_codeAt_13 {d : Nat} {l1 : Option Value} {x : Nat} {m : jmM} {Q : Option Value → jmM → Prop} : AW d 36 13 [some (.ref x), l1] [] m Q ↔ AW d 36 14 [some (.ref x), l1] [.ref x] m Q := A_aload_n hB_X3_codeAt dX3_codeAt_13 rfl
theorem dX3_codeAt_14 : decode cX3_codeAt 14 = .ok (.getfield 9, 3) := by decide +kernel
theorem tX3_codeAt_14 {d : Nat} {l0 l1 : Option Value} {a : Nat} {m : jmM} {Q : Option Value → jmM → Prop} : AW d 36 14 [l0, l1] [.ref a] m Q ↔ (mS m a).1 = 3 ∧ AW d 36 17 [l0, l1] [va_rf (mR m a 0)] m Q := A_getfield (f := fun m a => va_rf (mR m a 0)) hB_X3_codeAt dX3_codeAt_14 hO_X3_codeAt fF_3_9 rfl
theorem dX3_codeAt_17 : decode cX3_codeAt 17 = .ok (.iload_n 1, 1) := by decide +kernel
theorem tX3_codeAt_17 {d : Nat} {l0 : Option Value} {v0 : Value} {x : Int32} {m : jmM} {Q : Option Value → jmM → Prop} : AW d 36 17 [l0, some (.int x)] [v0] m Q ↔ AW d 36 18 [l0, some (.int x)] [.int x, v0] m Q := A_iload_n hB_X3_codeAt dX3_codeAt_17 rfl
theorem dX3_codeAt_18 : decode cX3_codeAt 18 = .ok (.iaload, 1) := by decide +kernel
theorem tX3_codeAt_18 {d : Nat} {l0 l1 : Option Value} {i : Int32} {a : Nat} {m : jmM} {Q : Option Value → jmM → Prop} : AW d 36 18 [l0, l1] [.int i, .ref a] m Q ↔ (((mS m a).1 = 20 ∨ a = jScr) ∧ jIx i (mS m a).2) ∧ AW d 36 19 [l0, l1] [.int (mI m a (jx i))] m Q := A_iaload hB_X3_codeAt dX3_codeAt_18
theorem dX3_codeAt_19 : decode cX3_codeAt 19 = .ok (.goto 4, 3) := by decide +kernel
theorem tX3_codeAt_19 {d : Nat} {l0 l1 : Option Value} {v0 : Value} {m : jmM} {Q : Option Value → jmM → Prop} : AW d 36 19 [l0, l1] [v0] m Q ↔ AW d 36 23 [l0, l1] [v0] m Q := A_goto hB_X3_codeAt dX3_codeAt_19 (by decide)
theorem dX3_codeAt_22 : decode cX3_codeAt 22 = .ok (.iconst 0, 1) := by decide +kernel
theorem tX3_codeAt_22 {d : Nat} {l0 l1 : Option Value} {m : jmM} {Q : Option Value → jmM → Prop} : AW d 36 22 [l0, l1] [] m Q ↔ AW d 36 23 [l0, l1] [.int 0] m Q := A_iconst hB_X3_codeAt dX3_codeAt_22 (by decide)
theorem dX3_codeAt_23 : decode cX3_codeAt 23 = .ok (.ireturn, 1) := by decide +kernel
theorem tX3_codeAt_23 {d : Nat} {l0 l1 : Option Value} {x : Int32} {m : jmM} {Q : Option Value → jmM → Prop} : AW d 36 23 [l0, l1] [.int x] m Q ↔ Q (some (.int x)) m := A_ireturn hB_X3_codeAt dX3_codeAt_23 hR_X3_codeAt
theorem hB_X3_kindOf : jB 37 = cX3_kindOf := rfl
theorem hO_X3_kindOf : jO 37 = 3 := rfl
theorem hR_X3_kindOf : jRt 37 = (some .int) := rfl
theorem nX3_kindOf (d : Nat) (x0 : Nat) (x1 : Int32) (m : jmM) (Q : Option Value → jmM → Prop) : CC (d + 1) 37 [.ref x0, .int x1] m Q ↔ AW d 37 0 [some (.ref x0), some (.int x1)] [] m Q := CC_body (Nat.le_of_ble_eq_true rfl)
theorem dX3_kindOf_0 : decode cX3_kindOf 0 = .ok (.iload_n 1, 1) := by decide +kernel
theorem tX3_kindOf_0 {d : Nat} {l0 : Option Value} {x : Int32} {m : jmM} {Q : Option Value → jmM → Prop} : AW d 37 0 [l0, some (.int x)] [] m Q ↔ AW d 37 1 [l0, some (.int x)] [.int x] m Q := A_iload_n hB_X3_kindOf dX3_kindOf_0 rfl
theorem dX3_kindOf_1 : decode cX3_kindOf 1 = .ok (.ifCond .lt 18, 3) := by decide +kernel
theorem tX3_kindOf_1 {d : Nat} {l0 l1 : Option Value} {x : Int32} {m : jmM} {Q : Option Value → jmM → Prop} : AW d 37 1 [l0, l1] [.int x] m Q ↔ if x < 0 then AW d 37 19 [l0, l1] [] m Q else AW d 37 4 [l0, l1] [] m Q := A_if_lt hB_X3_kindOf dX3_kindOf_1 (by decide)
theorem dX3_kindOf_4 : decode cX3_kindOf 4 = .ok (.iload_n 1, 1) := by decide +kernel
theorem tX3_kindOf_4 {d : Nat} {l0 : Option Value} {x : Int32} {m : jmM} {Q : Option Value → jmM → Prop} : AW d 37 4 [l0, some (.int x)] [] m Q ↔ AW d 37 5 [l0, some (.int x)] [.int x] m Q := A_iload_n hB_X3_kindOf dX3_kindOf_4 rfl
theorem dX3_kindOf_5 : decode cX3_kindOf 5 = .ok (.bipush 12, 2) := by decide +kernel
theorem tX3_kindOf_5 {d : Nat} {l0 l1 : Option Value} {v0 : Value} {m : jmM} {Q : Option Value → jmM → Prop} : AW d 37 5 [l0, l1] [v0] m Q ↔ AW d 37 7 [l0, l1] [.int 12, v0] m Q := A_bipush hB_X3_kindOf dX3_kindOf_5 rfl
theorem dX3_kindOf_7 : decode cX3_kindOf 7 = .ok (.if_icmp .ge 12, 3) := by decide +kernel
theorem tX3_kindOf_7 {d : Nat} {l0 l1 : Option Value} {x y : Int32} {m : jmM} {Q : Option Value → jmM → Prop} : AW d 37 7 [l0, l1] [.int y, .int x] m Q ↔ if y ≤ x then AW d 37 19 [l0, l1] [] m Q else AW d 37 10 [l0, l1] [] m Q := A_icmp_ge hB_X3_kindOf dX3_kindOf_7 (by decide)
theorem dX3_kindOf_10 : decode cX3_kindOf 10 = .ok (.aload_n 0, 1) := by decide +kernel
theorem tX3_kindOf_10 {d : Nat} {l1 : Option Value} {x : Nat} {m : jmM} {Q : Option Value → jmM → Prop} : AW d 37 10 [some (.ref x), l1] [] m Q ↔ AW d 37 11 [some (.ref x), l1] [.ref x] m Q := A_aload_n hB_X3_kindOf dX3_kindOf_10 rfl
theorem dX3_kindOf_11 : decode cX3_kindOf 11 = .ok (.getfield 19, 3) := by decide +kernel
theorem tX3_kindOf_11 {d : Nat} {l0 l1 : Option Value} {a : Nat} {m : jmM} {Q : Option Value → jmM → Prop} : AW d 37 11 [l0, l1] [.ref a] m Q ↔ (mS m a).1 = 3 ∧ AW d 37 14 [l0, l1] [va_rf (mR m a 2)] m Q := A_getfield (f := fun m a => va_rf (mR m a 2)) hB_X3_kindOf dX3_kindOf_11 hO_X3_kindOf fF_3_19 rfl
theorem dX3_kindOf_14 : decode cX3_kindOf 14 = .ok (.iload_n 1, 1) := by decide +kernel
theorem tX3_kindOf_14 {d : Nat} {l0 : Option Value} {v0 : Value} {x : Int32} {m : jmM} {Q : Option Value → jmM → Prop} : AW d 37 14 [l0, some (.int x)] [v0] m Q ↔ AW d 37 15 [l0, some (.int x)] [.int x, v0] m Q := A_iload_n hB_X3_kindOf dX3_kindOf_14 rfl
theorem dX3_kindOf_15 : decode cX3_kindOf 15 = .ok (.iaload, 1) := by decide +kernel
theorem tX3_kindOf_15 {d : Nat} {l0 l1 : Option Value} {i : Int32} {a : Nat} {m : jmM} {Q : Option Value → jmM → Prop} : AW d 37 15 [l0, l1] [.int i, .ref a] m Q ↔ (((mS m a).1 = 20 ∨ a = jScr) ∧ jIx i (mS m a).2) ∧ AW d 37 16 [l0, l1] [.int (mI m a (jx i))] m Q := A_iaload hB_X3_kindOf dX3_kindOf_15
theorem dX3_kindOf_16 : decode cX3_kindOf 16 = .ok (.goto 4, 3) := by decide +kernel
theorem tX3_kindOf_16 {d : Nat} {l0 l1 : Option Value} {v0 : Value} {m : jmM} {Q : Option Value → jmM → Prop} : AW d 37 16 [l0, l1] [v0] m Q ↔ AW d 37 20 [l0, l1] [v0] m Q := A_goto hB_X3_kindOf dX3_kindOf_16 (by decide)
theorem dX3_kindOf_19 : decode cX3_kindOf 19 = .ok (.iconst (-1), 1) := by decide +kernel
theorem tX3_kindOf_19 {d : Nat} {l0 l1 : Option Value} {m : jmM} {Q : Option Value → jmM → Prop} : AW d 37 19 [l0, l1] [] m Q ↔ AW d 37 20 [l0, l1] [.int (-1)] m Q := A_iconst hB_X3_kindOf dX3_kindOf_19 (by decide)
theorem dX3_kindOf_20 : decode cX3_kindOf 20 = .ok (.ireturn, 1) := by decide +kernel
theorem tX3_kindOf_20 {d : Nat} {l0 l1 : Option Value} {x : Int32} {m : jmM} {Q : Option Value → jmM → Prop} : AW d 37 20 [l0, l1] [.int x] m Q ↔ Q (some (.int x)) m := A_ireturn hB_X3_kindOf dX3_kindOf_20 hR_X3_kindOf
theorem hB_X3_sumOf : jB 38 = cX3_sumOf := rfl
theorem hO_X3_sumOf : jO 38 = 3 := rfl
theorem hR_X3_sumOf : jRt 38 = (some .int) := rfl
theorem nX3_sumOf (d : Nat) (x0 : Nat) (x1 : Int32) (m : jmM) (Q : Option Value → jmM → Prop) : CC (d + 1) 38 [.ref x0, .int x1] m Q ↔ AW d 38 0 [some (.ref x0), some (.int x1)] [] m Q := CC_body (Nat.le_of_ble_eq_true rfl)
theorem dX3_sumOf_0 : decode cX3_sumOf 0 = .ok (.iload_n 1, 1) := by decide +kernel
theorem tX3_sumOf_0 {d : Nat} {l0 : Option Value} {x : Int32} {m : jmM} {Q : Option Value → jmM → Prop} : AW d 38 0 [l0, some (.int x)] [] m Q ↔ AW d 38 1 [l0, some (.int x)] [.int x] m Q := A_iload_n hB_X3_sumOf dX3_sumOf_0 rfl
theorem dX3_sumOf_1 : decode cX3_sumOf 1 = .ok (.ifCond .lt 18, 3) := by decide +kernel
theorem tX3_sumOf_1 {d : Nat} {l0 l1 : Option Value} {x : Int32} {m : jmM} {Q : Option Value → jmM → Prop} : AW d 38 1 [l0, l1] [.int x] m Q ↔ if x < 0 then AW d 38 19 [l0, l1] [] m Q else AW d 38 4 [l0, l1] [] m Q := A_if_lt hB_X3_sumOf dX3_sumOf_1 (by decide)
theorem dX3_sumOf_4 : decode cX3_sumOf 4 = .ok (.iload_n 1, 1) := by decide +kernel
theorem tX3_sumOf_4 {d : Nat} {l0 : Option Value} {x : Int32} {m : jmM} {Q : Option Value → jmM → Prop} : AW d 38 4 [l0, some (.int x)] [] m Q ↔ AW d 38 5 [l0, some (.int x)] [.int x] m Q := A_iload_n hB_X3_sumOf dX3_sumOf_4 rfl
theorem dX3_sumOf_5 : decode cX3_sumOf 5 = .ok (.bipush 12, 2) := by decide +kernel
theorem tX3_sumOf_5 {d : Nat} {l0 l1 : Option Value} {v0 : Value} {m : jmM} {Q : Option Value → jmM → Prop} : AW d 38 5 [l0, l1] [v0] m Q ↔ AW d 38 7 [l0, l1] [.int 12, v0] m Q := A_bipush hB_X3_sumOf dX3_sumOf_5 rfl
theorem dX3_sumOf_7 : decode cX3_sumOf 7 = .ok (.if_icmp .ge 12, 3) := by decide +kernel
theorem tX3_sumOf_7 {d : Nat} {l0 l1 : Option Value} {x y : Int32} {m : jmM} {Q : Option Value → jmM → Prop} : AW d 38 7 [l0, l1] [.int y, .int x] m Q ↔ if y ≤ x then AW d 38 19 [l0, l1] [] m Q else AW d 38 10 [l0, l1] [] m Q := A_icmp_ge hB_X3_sumOf dX3_sumOf_7 (by decide)
theorem dX3_sumOf_10 : decode cX3_sumOf 10 = .ok (.aload_n 0, 1) := by decide +kernel
theorem tX3_sumOf_10 {d : Nat} {l1 : Option Value} {x : Nat} {m : jmM} {Q : Option Value → jmM → Prop} : AW d 38 10 [some (.ref x), l1] [] m Q ↔ AW d 38 11 [some (.ref x), l1] [.ref x] m Q := A_aload_n hB_X3_sumOf dX3_sumOf_10 rfl
theorem dX3_sumOf_11 : decode cX3_sumOf 11 = .ok (.getfield 22, 3) := by decide +kernel
theorem tX3_sumOf_11 {d : Nat} {l0 l1 : Option Value} {a : Nat} {m : jmM} {Q : Option Value → jmM → Prop} : AW d 38 11 [l0, l1] [.ref a] m Q ↔ (mS m a).1 = 3 ∧ AW d 38 14 [l0, l1] [va_rf (mR m a 3)] m Q := A_getfield (f := fun m a => va_rf (mR m a 3)) hB_X3_sumOf dX3_sumOf_11 hO_X3_sumOf fF_3_22 rfl
theorem dX3_sumOf_14 : decode cX3_sumOf 14 = .ok (.iload_n 1, 1) := by decide +kernel
theorem tX3_sumOf_14 {d : Nat} {l0 : Option Value} {v0 : Value} {x : Int32} {m : jmM} {Q : Option Value → jmM → Prop} : AW d 38 14 [l0, some (.int x)] [v0] m Q ↔ AW d 38 15 [l0, some (.int x)] [.int x, v0] m Q := A_iload_n hB_X3_sumOf dX3_sumOf_14 rfl
theorem dX3_sumOf_15 : decode cX3_sumOf 15 = .ok (.iaload, 1) := by decide +kernel
theorem tX3_sumOf_15 {d : Nat} {l0 l1 : Option Value} {i : Int32} {a : Nat} {m : jmM} {Q : Option Value → jmM → Prop} : AW d 38 15 [l0, l1] [.int i, .ref a] m Q ↔ (((mS m a).1 = 20 ∨ a = jScr) ∧ jIx i (mS m a).2) ∧ AW d 38 16 [l0, l1] [.int (mI m a (jx i))] m Q := A_iaload hB_X3_sumOf dX3_sumOf_15
theorem dX3_sumOf_16 : decode cX3_sumOf 16 = .ok (.goto 4, 3) := by decide +kernel
theorem tX3_sumOf_16 {d : Nat} {l0 l1 : Option Value} {v0 : Value} {m : jmM} {Q : Option Value → jmM → Prop} : AW d 38 16 [l0, l1] [v0] m Q ↔ AW d 38 20 [l0, l1] [v0] m Q := A_goto hB_X3_sumOf dX3_sumOf_16 (by decide)
theorem dX3_sumOf_19 : decode cX3_sumOf 19 = .ok (.iconst 0, 1) := by decide +kernel
theorem tX3_sumOf_19 {d : Nat} {l0 l1 : Option Value} {m : jmM} {Q : Option Value → jmM → Prop} : AW d 38 19 [l0, l1] [] m Q ↔ AW d 38 20 [l0, l1] [.int 0] m Q := A_iconst hB_X3_sumOf dX3_sumOf_19 (by decide)
theorem dX3_sumOf_20 : decode cX3_sumOf 20 = .ok (.ireturn, 1) := by decide +kernel
theorem tX3_sumOf_20 {d : Nat} {l0 l1 : Option Value} {x : Int32} {m : jmM} {Q : Option Value → jmM → Prop} : AW d 38 20 [l0, l1] [.int x] m Q ↔ Q (some (.int x)) m := A_ireturn hB_X3_sumOf dX3_sumOf_20 hR_X3_sumOf
theorem hB_X3_testOf : jB 39 = cX3_testOf := rfl
theorem hO_X3_testOf : jO 39 = 3 := rfl
theorem hR_X3_testOf : jRt 39 = (some .int) := rfl
theorem nX3_testOf (d : Nat) (x0 : Nat) (x1 : Int32) (m : jmM) (Q : Option Value → jmM → Prop) : CC (d + 1) 39 [.ref x0, .int x1] m Q ↔ AW d 39 0 [some (.ref x0), some (.int x1)] [] m Q := CC_body (Nat.le_of_ble_eq_true rfl)
theorem dX3_testOf_0 : decode cX3_testOf 0 = .ok (.iload_n 1, 1) := by decide +kernel
theorem tX3_testOf_0 {d : Nat} {l0 : Option Value} {x : Int32} {m : jmM} {Q : Option Value → jmM → Prop} : AW d 39 0 [l0, some (.int x)] [] m Q ↔ AW d 39 1 [l0, some (.int x)] [.int x] m Q := A_iload_n hB_X3_testOf dX3_testOf_0 rfl
theorem dX3_testOf_1 : decode cX3_testOf 1 = .ok (.ifCond .lt 18, 3) := by decide +kernel
theorem tX3_testOf_1 {d : Nat} {l0 l1 : Option Value} {x : Int32} {m : jmM} {Q : Option Value → jmM → Prop} : AW d 39 1 [l0, l1] [.int x] m Q ↔ if x < 0 then AW d 39 19 [l0, l1] [] m Q else AW d 39 4 [l0, l1] [] m Q := A_if_lt hB_X3_testOf dX3_testOf_1 (by decide)
theorem dX3_testOf_4 : decode cX3_testOf 4 = .ok (.iload_n 1, 1) := by decide +kernel
theorem tX3_testOf_4 {d : Nat} {l0 : Option Value} {x : Int32} {m : jmM} {Q : Option Value → jmM → Prop} : AW d 39 4 [l0, some (.int x)] [] m Q ↔ AW d 39 5 [l0, some (.int x)] [.int x] m Q := A_iload_n hB_X3_testOf dX3_testOf_4 rfl
theorem dX3_testOf_5 : decode cX3_testOf 5 = .ok (.bipush 12, 2) := by decide +kernel
theorem tX3_testOf_5 {d : Nat} {l0 l1 : Option Value} {v0 : Value} {m : jmM} {Q : Option Value → jmM → Prop} : AW d 39 5 [l0, l1] [v0] m Q ↔ AW d 39 7 [l0, l1] [.int 12, v0] m Q := A_bipush hB_X3_testOf dX3_testOf_5 rfl
theorem dX3_testOf_7 : decode cX3_testOf 7 = .ok (.if_icmp .ge 12, 3) := by decide +kernel
theorem tX3_testOf_7 {d : Nat} {l0 l1 : Option Value} {x y : Int32} {m : jmM} {Q : Option Value → jmM → Prop} : AW d 39 7 [l0, l1] [.int y, .int x] m Q ↔ if y ≤ x then AW d 39 19 [l0, l1] [] m Q else AW d 39 10 [l0, l1] [] m Q := A_icmp_ge hB_X3_testOf dX3_testOf_7 (by decide)
theorem dX3_testOf_10 : decode cX3_testOf 10 = .ok (.aload_n 0, 1) := by decide +kernel
theorem tX3_testOf_10 {d : Nat} {l1 : Option Value} {x : Nat} {m : jmM} {Q : Option Value → jmM → Prop} : AW d 39 10 [some (.ref x), l1] [] m Q ↔ AW d 39 11 [some (.ref x), l1] [.ref x] m Q := A_aload_n hB_X3_testOf dX3_testOf_10 rfl
theorem dX3_testOf_11 : decode cX3_testOf 11 = .ok (.getfield 25, 3) := by decide +kernel
theorem tX3_testOf_11 {d : Nat} {l0 l1 : Option Value} {a : Nat} {m : jmM} {Q : Option Value → jmM → Prop} : AW d 39 11 [l0, l1] [.ref a] m Q ↔ (mS m a).1 = 3 ∧ AW d 39 14 [l0, l1] [va_rf (mR m a 4)] m Q := A_getfield (f := fun m a => va_rf (mR m a 4)) hB_X3_testOf dX3_testOf_11 hO_X3_testOf fF_3_25 rfl
theorem dX3_testOf_14 : decode cX3_testOf 14 = .ok (.iload_n 1, 1) := by decide +kernel
theorem tX3_testOf_14 {d : Nat} {l0 : Option Value} {v0 : Value} {x : Int32} {m : jmM} {Q : Option Value → jmM → Prop} : AW d 39 14 [l0, some (.int x)] [v0] m Q ↔ AW d 39 15 [l0, some (.int x)] [.int x, v0] m Q := A_iload_n hB_X3_testOf dX3_testOf_14 rfl
theorem dX3_testOf_15 : decode cX3_testOf 15 = .ok (.iaload, 1) := by decide +kernel
theorem tX3_testOf_15 {d : Nat} {l0 l1 : Option Value} {i : Int32} {a : Nat} {m : jmM} {Q : Option Value → jmM → Prop} : AW d 39 15 [l0, l1] [.int i, .ref a] m Q ↔ (((mS m a).1 = 20 ∨ a = jScr) ∧ jIx i (mS m a).2) ∧ AW d 39 16 [l0, l1] [.int (mI m a (jx i))] m Q := A_iaload hB_X3_testOf dX3_testOf_15
theorem dX3_testOf_16 : decode cX3_testOf 16 = .ok (.goto 4, 3) := by decide +kernel
theorem tX3_testOf_16 {d : Nat} {l0 l1 : Option Value} {v0 : Value} {m : jmM} {Q : Option Value → jmM → Prop} : AW d 39 16 [l0, l1] [v0] m Q ↔ AW d 39 20 [l0, l1] [v0] m Q := A_goto hB_X3_testOf dX3_testOf_16 (by decide)
theorem dX3_testOf_19 : decode cX3_testOf 19 = .ok (.iconst 0, 1) := by decide +kernel
theorem tX3_testOf_19 {d : Nat} {l0 l1 : Option Value} {m : jmM} {Q : Option Value → jmM → Prop} : AW d 39 19 [l0, l1] [] m Q ↔ AW d 39 20 [l0, l1] [.int 0] m Q := A_iconst hB_X3_testOf dX3_testOf_19 (by decide)
theorem dX3_testOf_20 : decode cX3_testOf 20 = .ok (.ireturn, 1) := by decide +kernel
theorem tX3_testOf_20 {d : Nat} {l0 l1 : Option Value} {x : Int32} {m : jmM} {Q : Option Value → jmM → Prop} : AW d 39 20 [l0, l1] [.int x] m Q ↔ Q (some (.int x)) m := A_ireturn hB_X3_testOf dX3_testOf_20 hR_X3_testOf
theorem hB_X3_endOf : jB 40 = cX3_endOf := rfl
theorem hO_X3_endOf : jO 40 = 3 := rfl
theorem hR_X3_endOf : jRt 40 = (some .int) := rfl
theorem nX3_endOf (d : Nat) (x0 : Nat) (x1 : Int32) (m : jmM) (Q : Option Value → jmM → Prop) : CC (d + 1) 40 [.ref x0, .int x1] m Q ↔ AW d 40 0 [some (.ref x0), some (.int x1)] [] m Q := CC_body (Nat.le_of_ble_eq_true rfl)
theorem dX3_endOf_0 : decode cX3_endOf 0 = .ok (.iload_n 1, 1) := by decide +kernel
theorem tX3_endOf_0 {d : Nat} {l0 : Option Value} {x : Int32} {m : jmM} {Q : Option Value → jmM → Prop} : AW d 40 0 [l0, some (.int x)] [] m Q ↔ AW d 40 1 [l0, some (.int x)] [.int x] m Q := A_iload_n hB_X3_endOf dX3_endOf_0 rfl
theorem dX3_endOf_1 : decode cX3_endOf 1 = .ok (.ifCond .lt 18, 3) := by decide +kernel
theorem tX3_endOf_1 {d : Nat} {l0 l1 : Option Value} {x : Int32} {m : jmM} {Q : Option Value → jmM → Prop} : AW d 40 1 [l0, l1] [.int x] m Q ↔ if x < 0 then AW d 40 19 [l0, l1] [] m Q else AW d 40 4 [l0, l1] [] m Q := A_if_lt hB_X3_endOf dX3_endOf_1 (by decide)
theorem dX3_endOf_4 : decode cX3_endOf 4 = .ok (.iload_n 1, 1) := by decide +kernel
theorem tX3_endOf_4 {d : Nat} {l0 : Option Value} {x : Int32} {m : jmM} {Q : Option Value → jmM → Prop} : AW d 40 4 [l0, some (.int x)] [] m Q ↔ AW d 40 5 [l0, some (.int x)] [.int x] m Q := A_iload_n hB_X3_endOf dX3_endOf_4 rfl
theorem dX3_endOf_5 : decode cX3_endOf 5 = .ok (.bipush 12, 2) := by decide +kernel
theorem tX3_endOf_5 {d : Nat} {l0 l1 : Option Value} {v0 : Value} {m : jmM} {Q : Option Value → jmM → Prop} : AW d 40 5 [l0, l1] [v0] m Q ↔ AW d 40 7 [l0, l1] [.int 12, v0] m Q := A_bipush hB_X3_endOf dX3_endOf_5 rfl
theorem dX3_endOf_7 : decode cX3_endOf 7 = .ok (.if_icmp .ge 12, 3) := by decide +kernel
theorem tX3_endOf_7 {d : Nat} {l0 l1 : Option Value} {x y : Int32} {m : jmM} {Q : Option Value → jmM → Prop} : AW d 40 7 [l0, l1] [.int y, .int x] m Q ↔ if y ≤ x then AW d 40 19 [l0, l1] [] m Q else AW d 40 10 [l0, l1] [] m Q := A_icmp_ge hB_X3_endOf dX3_endOf_7 (by decide)
theorem dX3_endOf_10 : decode cX3_endOf 10 = .ok (.aload_n 0, 1) := by decide +kernel
theorem tX3_endOf_10 {d : Nat} {l1 : Option Value} {x : Nat} {m : jmM} {Q : Option Value → jmM → Prop} : AW d 40 10 [some (.ref x), l1] [] m Q ↔ AW d 40 11 [some (.ref x), l1] [.ref x] m Q := A_aload_n hB_X3_endOf dX3_endOf_10 rfl
theorem dX3_endOf_11 : decode cX3_endOf 11 = .ok (.getfield 28, 3) := by decide +kernel
theorem tX3_endOf_11 {d : Nat} {l0 l1 : Option Value} {a : Nat} {m : jmM} {Q : Option Value → jmM → Prop} : AW d 40 11 [l0, l1] [.ref a] m Q ↔ (mS m a).1 = 3 ∧ AW d 40 14 [l0, l1] [va_rf (mR m a 5)] m Q := A_getfield (f := fun m a => va_rf (mR m a 5)) hB_X3_endOf dX3_endOf_11 hO_X3_endOf fF_3_28 rfl
theorem dX3_endOf_14 : decode cX3_endOf 14 = .ok (.iload_n 1, 1) := by decide +kernel
theorem tX3_endOf_14 {d : Nat} {l0 : Option Value} {v0 : Value} {x : Int32} {m : jmM} {Q : Option Value → jmM → Prop} : AW d 40 14 [l0, some (.int x)] [v0] m Q ↔ AW d 40 15 [l0, some (.int x)] [.int x, v0] m Q := A_iload_n hB_X3_endOf dX3_endOf_14 rfl
theorem dX3_endOf_15 : decode cX3_endOf 15 = .ok (.iaload, 1) := by decide +kernel
theorem tX3_endOf_15 {d : Nat} {l0 l1 : Option Value} {i : Int32} {a : Nat} {m : jmM} {Q : Option Value → jmM → Prop} : AW d 40 15 [l0, l1] [.int i, .ref a] m Q ↔ (((mS m a).1 = 20 ∨ a = jScr) ∧ jIx i (mS m a).2) ∧ AW d 40 16 [l0, l1] [.int (mI m a (jx i))] m Q := A_iaload hB_X3_endOf dX3_endOf_15
theorem dX3_endOf_16 : decode cX3_endOf 16 = .ok (.goto 4, 3) := by decide +kernel
theorem tX3_endOf_16 {d : Nat} {l0 l1 : Option Value} {v0 : Value} {m : jmM} {Q : Option Value → jmM → Prop} : AW d 40 16 [l0, l1] [v0] m Q ↔ AW d 40 20 [l0, l1] [v0] m Q := A_goto hB_X3_endOf dX3_endOf_16 (by decide)
theorem dX3_endOf_19 : decode cX3_endOf 19 = .ok (.iconst 0, 1) := by decide +kernel
theorem tX3_endOf_19 {d : Nat} {l0 l1 : Option Value} {m : jmM} {Q : Option Value → jmM → Prop} : AW d 40 19 [l0, l1] [] m Q ↔ AW d 40 20 [l0, l1] [.int 0] m Q := A_iconst hB_X3_endOf dX3_endOf_19 (by decide)
theorem dX3_endOf_20 : decode cX3_endOf 20 = .ok (.ireturn, 1) := by decide +kernel
theorem tX3_endOf_20 {d : Nat} {l0 l1 : Option Value} {x : Int32} {m : jmM} {Q : Option Value → jmM → Prop} : AW d 40 20 [l0, l1] [.int x] m Q ↔ Q (some (.int x)) m := A_ireturn hB_X3_endOf dX3_endOf_20 hR_X3_endOf
