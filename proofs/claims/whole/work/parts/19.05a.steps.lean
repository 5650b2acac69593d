/-! steps of PulledCrystal$Pot, by program -/
theorem hB_X5_init : jB 46 = cX5_init := rfl
theorem hO_X5_init : jO 46 = 5 := rfl
theorem hR_X5_init : jRt 46 = none := rfl
theorem nX5_init (d : Nat) (x0 : Nat) (m : jmM) (Q : Option Value → jmM → Prop) : CC (d + 1) 46 [.ref x0] m Q ↔ AW d 46 0 [some (.ref x0)] [] m Q := CC_body (Nat.le_of_ble_eq_true rfl)
theorem dX5_init_0 : decode cX5_init 0 = .ok (.aload_n 0, 1) := by decide +kernel
theorem tX5_init_0 {d : Nat} {x : Nat} {m : jmM} {Q : Option Value → jmM → Prop} : AW d 46 0 [some (.ref x)] [] m Q ↔ AW d 46 1 [some (.ref x)] [.ref x] m Q := A_aload_n hB_X5_init dX5_init_0 rfl
theorem dX5_init_1 : decode cX5_init 1 = .ok (.invokespecial 3, 3) := by decide +kernel
theorem tX5_init_1 {d : Nat} {l0 : Option Value} {a : Nat} {m : jmM} {Q : Option Value → jmM → Prop} : AW d 46 1 [l0] [.ref a] m Q ↔ AW d 46 4 [l0] [] m Q := A_obj hB_X5_init dX5_init_1 hO_X5_init fS_5_3 (Nat.le_of_ble_eq_true rfl)
theorem dX5_init_4 : decode cX5_init 4 = .ok (.aload_n 0, 1) := by decide +kernel
theorem tX5_init_4 {d : Nat} {x : Nat} {m : jmM} {Q : Option Value → jmM → Prop} : AW d 46 4 [some (.ref x)] [] m Q ↔ AW d 46 5 [some (.ref x)] [.ref x] m Q := A_aload_n hB_X5_init dX5_init_4 rfl
theorem dX5_init_5 : decode cX5_init 5 = .ok (.new 9, 3) := by decide +kernel
theorem tX5_init_5 {d : Nat} {l0 : Option Value} {v0 : Value} {m : jmM} {Q : Option Value → jmM → Prop} : AW d 46 5 [l0] [v0] m Q ↔ AW d 46 8 [l0] [.ref (mN m), v0] (jNew m 8 8) Q := A_new hB_X5_init dX5_init_5 hO_X5_init fN_5_9 rfl
theorem dX5_init_8 : decode cX5_init 8 = .ok (.dup, 1) := by decide +kernel
theorem tX5_init_8 {d : Nat} {l0 : Option Value} {v1 : Value} {x : Nat} {m : jmM} {Q : Option Value → jmM → Prop} : AW d 46 8 [l0] [.ref x, v1] m Q ↔ AW d 46 9 [l0] [.ref x, .ref x, v1] m Q := A_dup_a hB_X5_init dX5_init_8
theorem dX5_init_9 : decode cX5_init 9 = .ok (.invokespecial 11, 3) := by decide +kernel
theorem tX5_init_9 {d : Nat} {l0 : Option Value} {v1 v2 : Value} {a : Nat} {m : jmM} {Q : Option Value → jmM → Prop} : AW d 46 9 [l0] [.ref a, v1, v2] m Q ↔ CC d 118 [.ref a] m (jK d 46 12 [l0] [v1, v2] Q) := A_callI5 hB_X5_init dX5_init_9 hO_X5_init fS_5_11 ⟨Nat.le_of_ble_eq_true rfl, Nat.le_of_ble_eq_true rfl⟩ rfl rfl
theorem dX5_init_12 : decode cX5_init 12 = .ok (.putfield 12, 3) := by decide +kernel
theorem tX5_init_12 {d : Nat} {l0 : Option Value} {x a : Nat} {m : jmM} {Q : Option Value → jmM → Prop} : AW d 46 12 [l0] [.ref x, .ref a] m Q ↔ (mS m a).1 = 5 ∧ AW d 46 15 [l0] [] (cR m a (jup (mR m a) 0 (some x))) Q := A_putR hB_X5_init dX5_init_12 hO_X5_init fF_5_12 rfl (fun _ => ⟨rfl, rfl⟩)
theorem tX5_init_12q {d : Nat} {l0 : Option Value} {x : Option Nat} {a : Nat} {m : jmM} {Q : Option Value → jmM → Prop} : AW d 46 12 [l0] [va_rf x, .ref a] m Q ↔ (mS m a).1 = 5 ∧ AW d 46 15 [l0] [] (cR m a (jup (mR m a) 0 x)) Q := A_putQ hB_X5_init dX5_init_12 hO_X5_init fF_5_12 rfl (fun _ => ⟨rfl, rfl⟩)
theorem tX5_init_12n {d : Nat} {l0 : Option Value} {a : Nat} {m : jmM} {Q : Option Value → jmM → Prop} : AW d 46 12 [l0] [.null, .ref a] m Q ↔ (mS m a).1 = 5 ∧ AW d 46 15 [l0] [] (cR m a (jup (mR m a) 0 none)) Q := A_putQ (x := none) hB_X5_init dX5_init_12 hO_X5_init fF_5_12 rfl (fun _ => ⟨rfl, rfl⟩)
theorem dX5_init_15 : decode cX5_init 15 = .ok (.aload_n 0, 1) := by decide +kernel
theorem tX5_init_15 {d : Nat} {x : Nat} {m : jmM} {Q : Option Value → jmM → Prop} : AW d 46 15 [some (.ref x)] [] m Q ↔ AW d 46 16 [some (.ref x)] [.ref x] m Q := A_aload_n hB_X5_init dX5_init_15 rfl
theorem dX5_init_16 : decode cX5_init 16 = .ok (.aconst_null, 1) := by decide +kernel
theorem tX5_init_16 {d : Nat} {l0 : Option Value} {v0 : Value} {m : jmM} {Q : Option Value → jmM → Prop} : AW d 46 16 [l0] [v0] m Q ↔ AW d 46 17 [l0] [.null, v0] m Q := A_aconst_null hB_X5_init dX5_init_16
theorem dX5_init_17 : decode cX5_init 17 = .ok (.putfield 18, 3) := by decide +kernel
theorem tX5_init_17 {d : Nat} {l0 : Option Value} {x a : Nat} {m : jmM} {Q : Option Value → jmM → Prop} : AW d 46 17 [l0] [.ref x, .ref a] m Q ↔ (mS m a).1 = 5 ∧ AW d 46 20 [l0] [] (cR m a (jup (mR m a) 1 (some x))) Q := A_putR hB_X5_init dX5_init_17 hO_X5_init fF_5_18 rfl (fun h => Bool.noConfusion h)
theorem tX5_init_17q {d : Nat} {l0 : Option Value} {x : Option Nat} {a : Nat} {m : jmM} {Q : Option Value → jmM → Prop} : AW d 46 17 [l0] [va_rf x, .ref a] m Q ↔ (mS m a).1 = 5 ∧ AW d 46 20 [l0] [] (cR m a (jup (mR m a) 1 x)) Q := A_putQ hB_X5_init dX5_init_17 hO_X5_init fF_5_18 rfl (fun h => Bool.noConfusion h)
theorem tX5_init_17n {d : Nat} {l0 : Option Value} {a : Nat} {m : jmM} {Q : Option Value → jmM → Prop} : AW d 46 17 [l0] [.null, .ref a] m Q ↔ (mS m a).1 = 5 ∧ AW d 46 20 [l0] [] (cR m a (jup (mR m a) 1 none)) Q := A_putQ (x := none) hB_X5_init dX5_init_17 hO_X5_init fF_5_18 rfl (fun h => Bool.noConfusion h)
theorem dX5_init_20 : decode cX5_init 20 = .ok (.aload_n 0, 1) := by decide +kernel
theorem tX5_init_20 {d : Nat} {x : Nat} {m : jmM} {Q : Option Value → jmM → Prop} : AW d 46 20 [some (.ref x)] [] m Q ↔ AW d 46 21 [some (.ref x)] [.ref x] m Q := A_aload_n hB_X5_init dX5_init_20 rfl
theorem dX5_init_21 : decode cX5_init 21 = .ok (.aconst_null, 1) := by decide +kernel
theorem tX5_init_21 {d : Nat} {l0 : Option Value} {v0 : Value} {m : jmM} {Q : Option Value → jmM → Prop} : AW d 46 21 [l0] [v0] m Q ↔ AW d 46 22 [l0] [.null, v0] m Q := A_aconst_null hB_X5_init dX5_init_21
theorem dX5_init_22 : decode cX5_init 22 = .ok (.putfield 22, 3) := by decide +kernel
theorem tX5_init_22 {d : Nat} {l0 : Option Value} {x a : Nat} {m : jmM} {Q : Option Value → jmM → Prop} : AW d 46 22 [l0] [.ref x, .ref a] m Q ↔ (mS m a).1 = 5 ∧ AW d 46 25 [l0] [] (cR m a (jup (mR m a) 2 (some x))) Q := A_putR hB_X5_init dX5_init_22 hO_X5_init fF_5_22 rfl (fun h => Bool.noConfusion h)
theorem tX5_init_22q {d : Nat} {l0 : Option Value} {x : Option Nat} {a : Nat} {m : jmM} {Q : Option Value → jmM → Prop} : AW d 46 22 [l0] [va_rf x, .ref a] m Q ↔ (mS m a).1 = 5 ∧ AW d 46 25 [l0] [] (cR m a (jup (mR m a) 2 x)) Q := A_putQ hB_X5_init dX5_init_22 hO_X5_init fF_5_22 rfl (fun h => Bool.noConfusion h)
theorem tX5_init_22n {d : Nat} {l0 : Option Value} {a : Nat} {m : jmM} {Q : Option Value → jmM → Prop} : AW d 46 22 [l0] [.null, .ref a] m Q ↔ (mS m a).1 = 5 ∧ AW d 46 25 [l0] [] (cR m a (jup (mR m a) 2 none)) Q := A_putQ (x := none) hB_X5_init dX5_init_22 hO_X5_init fF_5_22 rfl (fun h => Bool.noConfusion h)
theorem dX5_init_25 : decode cX5_init 25 = .ok (.aload_n 0, 1) := by decide +kernel
theorem tX5_init_25 {d : Nat} {x : Nat} {m : jmM} {Q : Option Value → jmM → Prop} : AW d 46 25 [some (.ref x)] [] m Q ↔ AW d 46 26 [some (.ref x)] [.ref x] m Q := A_aload_n hB_X5_init dX5_init_25 rfl
theorem dX5_init_26 : decode cX5_init 26 = .ok (.iconst 0, 1) := by decide +kernel
theorem tX5_init_26 {d : Nat} {l0 : Option Value} {v0 : Value} {m : jmM} {Q : Option Value → jmM → Prop} : AW d 46 26 [l0] [v0] m Q ↔ AW d 46 27 [l0] [.int 0, v0] m Q := A_iconst hB_X5_init dX5_init_26 (by decide)
theorem dX5_init_27 : decode cX5_init 27 = .ok (.putfield 25, 3) := by decide +kernel
theorem tX5_init_27 {d : Nat} {l0 : Option Value} {x : Int32} {a : Nat} {m : jmM} {Q : Option Value → jmM → Prop} : AW d 46 27 [l0] [.int x, .ref a] m Q ↔ (mS m a).1 = 5 ∧ AW d 46 30 [l0] [] (cI m a (jup (mI m a) 3 x)) Q := A_putI hB_X5_init dX5_init_27 hO_X5_init fF_5_25 rfl (fun h => Bool.noConfusion h)
theorem dX5_init_30 : decode cX5_init 30 = .ok (.aload_n 0, 1) := by decide +kernel
theorem tX5_init_30 {d : Nat} {x : Nat} {m : jmM} {Q : Option Value → jmM → Prop} : AW d 46 30 [some (.ref x)] [] m Q ↔ AW d 46 31 [some (.ref x)] [.ref x] m Q := A_aload_n hB_X5_init dX5_init_30 rfl
theorem dX5_init_31 : decode cX5_init 31 = .ok (.lconst 0, 1) := by decide +kernel
theorem tX5_init_31 {d : Nat} {l0 : Option Value} {v0 : Value} {m : jmM} {Q : Option Value → jmM → Prop} : AW d 46 31 [l0] [v0] m Q ↔ AW d 46 32 [l0] [.long 0, v0] m Q := A_lconst hB_X5_init dX5_init_31 (by decide)
theorem dX5_init_32 : decode cX5_init 32 = .ok (.putfield 29, 3) := by decide +kernel
theorem tX5_init_32 {d : Nat} {l0 : Option Value} {x : Int64} {a : Nat} {m : jmM} {Q : Option Value → jmM → Prop} : AW d 46 32 [l0] [.long x, .ref a] m Q ↔ (mS m a).1 = 5 ∧ AW d 46 35 [l0] [] (cL m a (jup (mL m a) 4 x)) Q := A_putL hB_X5_init dX5_init_32 hO_X5_init fF_5_29 rfl (fun h => Bool.noConfusion h)
theorem dX5_init_35 : decode cX5_init 35 = .ok (.aload_n 0, 1) := by decide +kernel
theorem tX5_init_35 {d : Nat} {x : Nat} {m : jmM} {Q : Option Value → jmM → Prop} : AW d 46 35 [some (.ref x)] [] m Q ↔ AW d 46 36 [some (.ref x)] [.ref x] m Q := A_aload_n hB_X5_init dX5_init_35 rfl
theorem dX5_init_36 : decode cX5_init 36 = .ok (.iconst 0, 1) := by decide +kernel
theorem tX5_init_36 {d : Nat} {l0 : Option Value} {v0 : Value} {m : jmM} {Q : Option Value → jmM → Prop} : AW d 46 36 [l0] [v0] m Q ↔ AW d 46 37 [l0] [.int 0, v0] m Q := A_iconst hB_X5_init dX5_init_36 (by decide)
theorem dX5_init_37 : decode cX5_init 37 = .ok (.putfield 33, 3) := by decide +kernel
theorem tX5_init_37 {d : Nat} {l0 : Option Value} {x : Int32} {a : Nat} {m : jmM} {Q : Option Value → jmM → Prop} : AW d 46 37 [l0] [.int x, .ref a] m Q ↔ (mS m a).1 = 5 ∧ AW d 46 40 [l0] [] (cI m a (jup (mI m a) 5 x)) Q := A_putI hB_X5_init dX5_init_37 hO_X5_init fF_5_33 rfl (fun h => Bool.noConfusion h)
theorem dX5_init_40 : decode cX5_init 40 = .ok (.aload_n 0, 1) := by decide +kernel
theorem tX5_init_40 {d : Nat} {x : Nat} {m : jmM} {Q : Option Value → jmM → Prop} : AW d 46 40 [some (.ref x)] [] m Q ↔ AW d 46 41 [some (.ref x)] [.ref x] m Q := A_aload_n hB_X5_init dX5_init_40 rfl
theorem dX5_init_41 : decode cX5_init 41 = .ok (.iconst 0, 1) := by decide +kernel
theorem tX5_init_41 {d : Nat} {l0 : Option Value} {v0 : Value} {m : jmM} {Q : Option Value → jmM → Prop} : AW d 46 41 [l0] [v0] m Q ↔ AW d 46 42 [l0] [.int 0, v0] m Q := A_iconst hB_X5_init dX5_init_41 (by decide)
theorem dX5_init_42 : decode cX5_init 42 = .ok (.putfield 36, 3) := by decide +kernel
theorem tX5_init_42 {d : Nat} {l0 : Option Value} {x : Int32} {a : Nat} {m : jmM} {Q : Option Value → jmM → Prop} : AW d 46 42 [l0] [.int x, .ref a] m Q ↔ (mS m a).1 = 5 ∧ AW d 46 45 [l0] [] (cI m a (jup (mI m a) 6 x)) Q := A_putI hB_X5_init dX5_init_42 hO_X5_init fF_5_36 rfl (fun h => Bool.noConfusion h)
theorem dX5_init_45 : decode cX5_init 45 = .ok (.aload_n 0, 1) := by decide +kernel
theorem tX5_init_45 {d : Nat} {x : Nat} {m : jmM} {Q : Option Value → jmM → Prop} : AW d 46 45 [some (.ref x)] [] m Q ↔ AW d 46 46 [some (.ref x)] [.ref x] m Q := A_aload_n hB_X5_init dX5_init_45 rfl
theorem dX5_init_46 : decode cX5_init 46 = .ok (.iconst 0, 1) := by decide +kernel
theorem tX5_init_46 {d : Nat} {l0 : Option Value} {v0 : Value} {m : jmM} {Q : Option Value → jmM → Prop} : AW d 46 46 [l0] [v0] m Q ↔ AW d 46 47 [l0] [.int 0, v0] m Q := A_iconst hB_X5_init dX5_init_46 (by decide)
theorem dX5_init_47 : decode cX5_init 47 = .ok (.putfield 39, 3) := by decide +kernel
theorem tX5_init_47 {d : Nat} {l0 : Option Value} {x : Int32} {a : Nat} {m : jmM} {Q : Option Value → jmM → Prop} : AW d 46 47 [l0] [.int x, .ref a] m Q ↔ (mS m a).1 = 5 ∧ AW d 46 50 [l0] [] (cI m a (jup (mI m a) 7 x)) Q := A_putI hB_X5_init dX5_init_47 hO_X5_init fF_5_39 rfl (fun h => Bool.noConfusion h)
theorem dX5_init_50 : decode cX5_init 50 = .ok (.aload_n 0, 1) := by decide +kernel
theorem tX5_init_50 {d : Nat} {x : Nat} {m : jmM} {Q : Option Value → jmM → Prop} : AW d 46 50 [some (.ref x)] [] m Q ↔ AW d 46 51 [some (.ref x)] [.ref x] m Q := A_aload_n hB_X5_init dX5_init_50 rfl
theorem dX5_init_51 : decode cX5_init 51 = .ok (.iconst 0, 1) := by decide +kernel
theorem tX5_init_51 {d : Nat} {l0 : Option Value} {v0 : Value} {m : jmM} {Q : Option Value → jmM → Prop} : AW d 46 51 [l0] [v0] m Q ↔ AW d 46 52 [l0] [.int 0, v0] m Q := A_iconst hB_X5_init dX5_init_51 (by decide)
theorem dX5_init_52 : decode cX5_init 52 = .ok (.putfield 42, 3) := by decide +kernel
theorem tX5_init_52 {d : Nat} {l0 : Option Value} {x : Int32} {a : Nat} {m : jmM} {Q : Option Value → jmM → Prop} : AW d 46 52 [l0] [.int x, .ref a] m Q ↔ (mS m a).1 = 5 ∧ AW d 46 55 [l0] [] (cI m a (jup (mI m a) 8 x)) Q := A_putI hB_X5_init dX5_init_52 hO_X5_init fF_5_42 rfl (fun h => Bool.noConfusion h)
theorem dX5_init_55 : decode cX5_init 55 = .ok (.aload_n 0, 1) := by decide +kernel
theorem tX5_init_55 {d : Nat} {x : Nat} {m : jmM} {Q : Option Value → jmM → Prop} : AW d 46 55 [some (.ref x)] [] m Q ↔ AW d 46 56 [some (.ref x)] [.ref x] m Q := A_aload_n hB_X5_init dX5_init_55 rfl
theorem dX5_init_56 : decode cX5_init 56 = .ok (.iconst 0, 1) := by decide +kernel
theorem tX5_init_56 {d : Nat} {l0 : Option Value} {v0 : Value} {m : jmM} {Q : Option Value → jmM → Prop} : AW d 46 56 [l0] [v0] m Q ↔ AW d 46 57 [l0] [.int 0, v0] m Q := A_iconst hB_X5_init dX5_init_56 (by decide)
theorem dX5_init_57 : decode cX5_init 57 = .ok (.putfield 45, 3) := by decide +kernel
theorem tX5_init_57 {d : Nat} {l0 : Option Value} {x : Int32} {a : Nat} {m : jmM} {Q : Option Value → jmM → Prop} : AW d 46 57 [l0] [.int x, .ref a] m Q ↔ (mS m a).1 = 5 ∧ AW d 46 60 [l0] [] (cI m a (jup (mI m a) 9 x)) Q := A_putI hB_X5_init dX5_init_57 hO_X5_init fF_5_45 rfl (fun h => Bool.noConfusion h)
theorem dX5_init_60 : decode cX5_init 60 = .ok (.aload_n 0, 1) := by decide +kernel
theorem tX5_init_60 {d : Nat} {x : Nat} {m : jmM} {Q : Option Value → jmM → Prop} : AW d 46 60 [some (.ref x)] [] m Q ↔ AW d 46 61 [some (.ref x)] [.ref x] m Q := A_aload_n hB_X5_init dX5_init_60 rfl
theorem dX5_init_61 : decode cX5_init 61 = .ok (.iconst 0, 1) := by decide +kernel
theorem tX5_init_61 {d : Nat} {l0 : Option Value} {v0 : Value} {m : jmM} {Q : Option Value → jmM → Prop} : AW d 46 61 [l0] [v0] m Q ↔ AW d 46 62 [l0] [.int 0, v0] m Q := A_iconst hB_X5_init dX5_init_61 (by decide)
theorem dX5_init_62 : decode cX5_init 62 = .ok (.putfield 48, 3) := by decide +kernel
theorem tX5_init_62 {d : Nat} {l0 : Option Value} {x : Int32} {a : Nat} {m : jmM} {Q : Option Value → jmM → Prop} : AW d 46 62 [l0] [.int x, .ref a] m Q ↔ (mS m a).1 = 5 ∧ AW d 46 65 [l0] [] (cI m a (jup (mI m a) 10 x)) Q := A_putI hB_X5_init dX5_init_62 hO_X5_init fF_5_48 rfl (fun h => Bool.noConfusion h)
theorem dX5_init_65 : decode cX5_init 65 = .ok (.aload_n 0, 1) := by decide +kernel
theorem tX5_init_65 {d : Nat} {x : Nat} {m : jmM} {Q : Option Value → jmM → Prop} : AW d 46 65 [some (.ref x)] [] m Q ↔ AW d 46 66 [some (.ref x)] [.ref x] m Q := A_aload_n hB_X5_init dX5_init_65 rfl
theorem dX5_init_66 : decode cX5_init 66 = .ok (.iconst 0, 1) := by decide +kernel
theorem tX5_init_66 {d : Nat} {l0 : Option Value} {v0 : Value} {m : jmM} {Q : Option Value → jmM → Prop} : AW d 46 66 [l0] [v0] m Q ↔ AW d 46 67 [l0] [.int 0, v0] m Q := A_iconst hB_X5_init dX5_init_66 (by decide)
theorem dX5_init_67 : decode cX5_init 67 = .ok (.putfield 51, 3) := by decide +kernel
theorem tX5_init_67 {d : Nat} {l0 : Option Value} {x : Int32} {a : Nat} {m : jmM} {Q : Option Value → jmM → Prop} : AW d 46 67 [l0] [.int x, .ref a] m Q ↔ (mS m a).1 = 5 ∧ AW d 46 70 [l0] [] (cI m a (jup (mI m a) 11 x)) Q := A_putI hB_X5_init dX5_init_67 hO_X5_init fF_5_51 rfl (fun h => Bool.noConfusion h)
theorem dX5_init_70 : decode cX5_init 70 = .ok (.aload_n 0, 1) := by decide +kernel
theorem tX5_init_70 {d : Nat} {x : Nat} {m : jmM} {Q : Option Value → jmM → Prop} : AW d 46 70 [some (.ref x)] [] m Q ↔ AW d 46 71 [some (.ref x)] [.ref x] m Q := A_aload_n hB_X5_init dX5_init_70 rfl
theorem dX5_init_71 : decode cX5_init 71 = .ok (.sipush 600, 3) := by decide +kernel
theorem tX5_init_71 {d : Nat} {l0 : Option Value} {v0 : Value} {m : jmM} {Q : Option Value → jmM → Prop} : AW d 46 71 [l0] [v0] m Q ↔ AW d 46 74 [l0] [.int 600, v0] m Q := A_sipush hB_X5_init dX5_init_71 rfl
theorem dX5_init_74 : decode cX5_init 74 = .ok (.newarray .int, 2) := by decide +kernel
theorem tX5_init_74 {d : Nat} {l0 : Option Value} {v1 : Value} {x : Int32} {m : jmM} {Q : Option Value → jmM → Prop} : AW d 46 74 [l0] [.int x, v1] m Q ↔ (0 ≤ x.toInt ∧ x.toInt ≤ 100000) ∧ AW d 46 76 [l0] [.ref (mN m), v1] (jNew m 20 (jx x)) Q := A_newarray hB_X5_init dX5_init_74 rfl
theorem dX5_init_76 : decode cX5_init 76 = .ok (.putfield 54, 3) := by decide +kernel
theorem tX5_init_76 {d : Nat} {l0 : Option Value} {x a : Nat} {m : jmM} {Q : Option Value → jmM → Prop} : AW d 46 76 [l0] [.ref x, .ref a] m Q ↔ (mS m a).1 = 5 ∧ AW d 46 79 [l0] [] (cR m a (jup (mR m a) 12 (some x))) Q := A_putR hB_X5_init dX5_init_76 hO_X5_init fF_5_54 rfl (fun _ => ⟨rfl, rfl⟩)
theorem tX5_init_76q {d : Nat} {l0 : Option Value} {x : Option Nat} {a : Nat} {m : jmM} {Q : Option Value → jmM → Prop} : AW d 46 76 [l0] [va_rf x, .ref a] m Q ↔ (mS m a).1 = 5 ∧ AW d 46 79 [l0] [] (cR m a (jup (mR m a) 12 x)) Q := A_putQ hB_X5_init dX5_init_76 hO_X5_init fF_5_54 rfl (fun _ => ⟨rfl, rfl⟩)
theorem tX5_init_76n {d : Nat} {l0 : Option Value} {a : Nat} {m : jmM} {Q : Option Value → jmM → Prop} : AW d 46 76 [l0] [.null, .ref a] m Q ↔ (mS m a).1 = 5 ∧ AW d 46 79 [l0] [] (cR m a (jup (mR m a) 12 none)) Q := A_putQ (x := none) hB_X5_init dX5_init_76 hO_X5_init fF_5_54 rfl (fun _ => ⟨rfl, rfl⟩)
theorem dX5_init_79 : decode cX5_init 79 = .ok (.aload_n 0, 1) := by decide +kernel
theorem tX5_init_79 {d : Nat} {x : Nat} {m : jmM} {Q : Option Value → jmM → Prop} : AW d 46 79 [some (.ref x)] [] m Q ↔ AW d 46 80 [some (.ref x)] [.ref x] m Q := A_aload_n hB_X5_init dX5_init_79 rfl
theorem dX5_init_80 : decode cX5_init 80 = .ok (.sipush 600, 3) := by decide +kernel
theorem tX5_init_80 {d : Nat} {l0 : Option Value} {v0 : Value} {m : jmM} {Q : Option Value → jmM → Prop} : AW d 46 80 [l0] [v0] m Q ↔ AW d 46 83 [l0] [.int 600, v0] m Q := A_sipush hB_X5_init dX5_init_80 rfl
theorem dX5_init_83 : decode cX5_init 83 = .ok (.newarray .int, 2) := by decide +kernel
theorem tX5_init_83 {d : Nat} {l0 : Option Value} {v1 : Value} {x : Int32} {m : jmM} {Q : Option Value → jmM → Prop} : AW d 46 83 [l0] [.int x, v1] m Q ↔ (0 ≤ x.toInt ∧ x.toInt ≤ 100000) ∧ AW d 46 85 [l0] [.ref (mN m), v1] (jNew m 20 (jx x)) Q := A_newarray hB_X5_init dX5_init_83 rfl
theorem dX5_init_85 : decode cX5_init 85 = .ok (.putfield 58, 3) := by decide +kernel
theorem tX5_init_85 {d : Nat} {l0 : Option Value} {x a : Nat} {m : jmM} {Q : Option Value → jmM → Prop} : AW d 46 85 [l0] [.ref x, .ref a] m Q ↔ (mS m a).1 = 5 ∧ AW d 46 88 [l0] [] (cR m a (jup (mR m a) 13 (some x))) Q := A_putR hB_X5_init dX5_init_85 hO_X5_init fF_5_58 rfl (fun _ => ⟨rfl, rfl⟩)
theorem tX5_init_85q {d : Nat} {l0 : Option Value} {x : Option Nat} {a : Nat} {m : jmM} {Q : Option Value → jmM → Prop} : AW d 46 85 [l0] [va_rf x, .ref a] m Q ↔ (mS m a).1 = 5 ∧ AW d 46 88 [l0] [] (cR m a (jup (mR m a) 13 x)) Q := A_putQ hB_X5_init dX5_init_85 hO_X5_init fF_5_58 rfl (fun _ => ⟨rfl, rfl⟩)
theorem tX5_init_85n {d : Nat} {l0 : Option Value} {a : Nat} {m : jmM} {Q : Option Value → jmM → Prop} : AW d 46 85 [l0] [.null, .ref a] m Q ↔ (mS m a).1 = 5 ∧ AW d 46 88 [l0] [] (cR m a (jup (mR m a) 13 none)) Q := A_putQ (x := none) hB_X5_init dX5_init_85 hO_X5_init fF_5_58 rfl (fun _ => ⟨rfl, rfl⟩)
theorem dX5_init_88 : decode cX5_init 88 = .ok (.aload_n 0, 1) := by decide +kernel
theorem tX5_init_88 {d : Nat} {x : Nat} {m : jmM} {Q : Option Value → jmM → Prop} : AW d 46 88 [some (.ref x)] [] m Q ↔ AW d 46 89 [some (.ref x)] [.ref x] m Q := A_aload_n hB_X5_init dX5_init_88 rfl
theorem dX5_init_89 : decode cX5_init 89 = .ok (.sipush 600, 3) := by decide +kernel
theorem tX5_init_89 {d : Nat} {l0 : Option Value} {v0 : Value} {m : jmM} {Q : Option Value → jmM → Prop} : AW d 46 89 [l0] [v0] m Q ↔ AW d 46 92 [l0] [.int 600, v0] m Q := A_sipush hB_X5_init dX5_init_89 rfl
theorem dX5_init_92 : decode cX5_init 92 = .ok (.newarray .int, 2) := by decide +kernel
theorem tX5_init_92 {d : Nat} {l0 : Option Value} {v1 : Value} {x : Int32} {m : jmM} {Q : Option Value → jmM → Prop} : AW d 46 92 [l0] [.int x, v1] m Q ↔ (0 ≤ x.toInt ∧ x.toInt ≤ 100000) ∧ AW d 46 94 [l0] [.ref (mN m), v1] (jNew m 20 (jx x)) Q := A_newarray hB_X5_init dX5_init_92 rfl
theorem dX5_init_94 : decode cX5_init 94 = .ok (.putfield 61, 3) := by decide +kernel
theorem tX5_init_94 {d : Nat} {l0 : Option Value} {x a : Nat} {m : jmM} {Q : Option Value → jmM → Prop} : AW d 46 94 [l0] [.ref x, .ref a] m Q ↔ (mS m a).1 = 5 ∧ AW d 46 97 [l0] [] (cR m a (jup (mR m a) 14 (some x))) Q := A_putR hB_X5_init dX5_init_94 hO_X5_init fF_5_61 rfl (fun _ => ⟨rfl, rfl⟩)
theorem tX5_init_94q {d : Nat} {l0 : Option Value} {x : Option Nat} {a : Nat} {m : jmM} {Q : Option Value → jmM → Prop} : AW d 46 94 [l0] [va_rf x, .ref a] m Q ↔ (mS m a).1 = 5 ∧ AW d 46 97 [l0] [] (cR m a (jup (mR m a) 14 x)) Q := A_putQ hB_X5_init dX5_init_94 hO_X5_init fF_5_61 rfl (fun _ => ⟨rfl, rfl⟩)
theorem tX5_init_94n {d : Nat} {l0 : Option Value} {a : Nat} {m : jmM} {Q : Option Value → jmM → Prop} : AW d 46 94 [l0] [.null, .ref a] m Q ↔ (mS m a).1 = 5 ∧ AW d 46 97 [l0] [] (cR m a (jup (mR m a) 14 none)) Q := A_putQ (x := none) hB_X5_init dX5_init_94 hO_X5_init fF_5_61 rfl (fun _ => ⟨rfl, rfl⟩)
theorem dX5_init_97 : decode cX5_init 97 = .ok (.aload_n 0, 1) := by decide +kernel
theorem tX5_init_97 {d : Nat} {x : Nat} {m : jmM} {Q : Option Value → jmM → Prop} : AW d 46 97 [some (.ref x)] [] m Q ↔ AW d 46 98 [some (.ref x)] [.ref x] m Q := A_aload_n hB_X5_init dX5_init_97 rfl
theorem dX5_init_98 : decode cX5_init 98 = .ok (.sipush 600, 3) := by decide +kernel
theorem tX5_init_98 {d : Nat} {l0 : Option Value} {v0 : Value} {m : jmM} {Q : Option Value → jmM → Prop} : AW d 46 98 [l0] [v0] m Q ↔ AW d 46 101 [l0] [.int 600, v0] m Q := A_sipush hB_X5_init dX5_init_98 rfl
theorem dX5_init_101 : decode cX5_init 101 = .ok (.newarray .int, 2) := by decide +kernel
theorem tX5_init_101 {d : Nat} {l0 : Option Value} {v1 : Value} {x : Int32} {m : jmM} {Q : Option Value → jmM → Prop} : AW d 46 101 [l0] [.int x, v1] m Q ↔ (0 ≤ x.toInt ∧ x.toInt ≤ 100000) ∧ AW d 46 103 [l0] [.ref (mN m), v1] (jNew m 20 (jx x)) Q := A_newarray hB_X5_init dX5_init_101 rfl
theorem dX5_init_103 : decode cX5_init 103 = .ok (.putfield 64, 3) := by decide +kernel
theorem tX5_init_103 {d : Nat} {l0 : Option Value} {x a : Nat} {m : jmM} {Q : Option Value → jmM → Prop} : AW d 46 103 [l0] [.ref x, .ref a] m Q ↔ (mS m a).1 = 5 ∧ AW d 46 106 [l0] [] (cR m a (jup (mR m a) 15 (some x))) Q := A_putR hB_X5_init dX5_init_103 hO_X5_init fF_5_64 rfl (fun _ => ⟨rfl, rfl⟩)
theorem tX5_init_103q {d : Nat} {l0 : Option Value} {x : Option Nat} {a : Nat} {m : jmM} {Q : Option Value → jmM → Prop} : AW d 46 103 [l0] [va_rf x, .ref a] m Q ↔ (mS m a).1 = 5 ∧ AW d 46 106 [l0] [] (cR m a (jup (mR m a) 15 x)) Q := A_putQ hB_X5_init dX5_init_103 hO_X5_init fF_5_64 rfl (fun _ => ⟨rfl, rfl⟩)
theorem tX5_init_103n {d : Nat} {l0 : Option Value} {a : Nat} {m : jmM} {Q : Option Value → jmM → Prop} : AW d 46 103 [l0] [.null, .ref a] m Q ↔ (mS m a).1 = 5 ∧ AW d 46 106 [l0] [] (cR m a (jup (mR m a) 15 none)) Q := A_putQ (x := none) hB_X5_init dX5_init_103 hO_X5_init fF_5_64 rfl (fun _ => ⟨rfl, rfl⟩)
theorem dX5_init_106 : decode cX5_init 106 = .ok (.aload_n 0, 1) := by decide +kernel
theorem tX5_init_106 {d : Nat} {x : Nat} {m : jmM} {Q : Option Value → jmM → Prop} : AW d 46 106 [some (.ref x)] [] m Q ↔ AW d 46 107 [some (.ref x)] [.ref x] m Q := A_aload_n hB_X5_init dX5_init_106 rfl
theorem dX5_init_107 : decode cX5_init 107 = .ok (.sipush 600, 3) := by decide +kernel
theorem tX5_init_107 {d : Nat} {l0 : Option Value} {v0 : Value} {m : jmM} {Q : Option Value → jmM → Prop} : AW d 46 107 [l0] [v0] m Q ↔ AW d 46 110 [l0] [.int 600, v0] m Q := A_sipush hB_X5_init dX5_init_107 rfl
theorem dX5_init_110 : decode cX5_init 110 = .ok (.newarray .boolean, 2) := by decide +kernel
theorem tX5_init_110 {d : Nat} {l0 : Option Value} {v1 : Value} {x : Int32} {m : jmM} {Q : Option Value → jmM → Prop} : AW d 46 110 [l0] [.int x, v1] m Q ↔ (0 ≤ x.toInt ∧ x.toInt ≤ 100000) ∧ AW d 46 112 [l0] [.ref (mN m), v1] (jNew m 23 (jx x)) Q := A_newarray hB_X5_init dX5_init_110 rfl
theorem dX5_init_112 : decode cX5_init 112 = .ok (.putfield 67, 3) := by decide +kernel
theorem tX5_init_112 {d : Nat} {l0 : Option Value} {x a : Nat} {m : jmM} {Q : Option Value → jmM → Prop} : AW d 46 112 [l0] [.ref x, .ref a] m Q ↔ (mS m a).1 = 5 ∧ AW d 46 115 [l0] [] (cR m a (jup (mR m a) 16 (some x))) Q := A_putR hB_X5_init dX5_init_112 hO_X5_init fF_5_67 rfl (fun _ => ⟨rfl, rfl⟩)
theorem tX5_init_112q {d : Nat} {l0 : Option Value} {x : Option Nat} {a : Nat} {m : jmM} {Q : Option Value → jmM → Prop} : AW d 46 112 [l0] [va_rf x, .ref a] m Q ↔ (mS m a).1 = 5 ∧ AW d 46 115 [l0] [] (cR m a (jup (mR m a) 16 x)) Q := A_putQ hB_X5_init dX5_init_112 hO_X5_init fF_5_67 rfl (fun _ => ⟨rfl, rfl⟩)
theorem tX5_init_112n {d : Nat} {l0 : Option Value} {a : Nat} {m : jmM} {Q : Option Value → jmM → Prop} : AW d 46 112 [l0] [.null, .ref a] m Q ↔ (mS m a).1 = 5 ∧ AW d 46 115 [l0] [] (cR m a (jup (mR m a) 16 none)) Q := A_putQ (x := none) hB_X5_init dX5_init_112 hO_X5_init fF_5_67 rfl (fun _ => ⟨rfl, rfl⟩)
theorem dX5_init_115 : decode cX5_init 115 = .ok (.aload_n 0, 1) := by decide +kernel
theorem tX5_init_115 {d : Nat} {x : Nat} {m : jmM} {Q : Option Value → jmM → Prop} : AW d 46 115 [some (.ref x)] [] m Q ↔ AW d 46 116 [some (.ref x)] [.ref x] m Q := A_aload_n hB_X5_init dX5_init_115 rfl
theorem dX5_init_116 : decode cX5_init 116 = .ok (.sipush 3600, 3) := by decide +kernel
theorem tX5_init_116 {d : Nat} {l0 : Option Value} {v0 : Value} {m : jmM} {Q : Option Value → jmM → Prop} : AW d 46 116 [l0] [v0] m Q ↔ AW d 46 119 [l0] [.int 3600, v0] m Q := A_sipush hB_X5_init dX5_init_116 rfl
theorem dX5_init_119 : decode cX5_init 119 = .ok (.newarray .long, 2) := by decide +kernel
theorem tX5_init_119 {d : Nat} {l0 : Option Value} {v1 : Value} {x : Int32} {m : jmM} {Q : Option Value → jmM → Prop} : AW d 46 119 [l0] [.int x, v1] m Q ↔ (0 ≤ x.toInt ∧ x.toInt ≤ 100000) ∧ AW d 46 121 [l0] [.ref (mN m), v1] (jNew m 21 (jx x)) Q := A_newarray hB_X5_init dX5_init_119 rfl
theorem dX5_init_121 : decode cX5_init 121 = .ok (.putfield 71, 3) := by decide +kernel
theorem tX5_init_121 {d : Nat} {l0 : Option Value} {x a : Nat} {m : jmM} {Q : Option Value → jmM → Prop} : AW d 46 121 [l0] [.ref x, .ref a] m Q ↔ (mS m a).1 = 5 ∧ AW d 46 124 [l0] [] (cR m a (jup (mR m a) 17 (some x))) Q := A_putR hB_X5_init dX5_init_121 hO_X5_init fF_5_71 rfl (fun _ => ⟨rfl, rfl⟩)
theorem tX5_init_121q {d : Nat} {l0 : Option Value} {x : Option Nat} {a : Nat} {m : jmM} {Q : Option Value → jmM → Prop} : AW d 46 121 [l0] [va_rf x, .ref a] m Q ↔ (mS m a).1 = 5 ∧ AW d 46 124 [l0] [] (cR m a (jup (mR m a) 17 x)) Q := A_putQ hB_X5_init dX5_init_121 hO_X5_init fF_5_71 rfl (fun _ => ⟨rfl, rfl⟩)
theorem tX5_init_121n {d : Nat} {l0 : Option Value} {a : Nat} {m : jmM} {Q : Option Value → jmM → Prop} : AW d 46 121 [l0] [.null, .ref a] m Q ↔ (mS m a).1 = 5 ∧ AW d 46 124 [l0] [] (cR m a (jup (mR m a) 17 none)) Q := A_putQ (x := none) hB_X5_init dX5_init_121 hO_X5_init fF_5_71 rfl (fun _ => ⟨rfl, rfl⟩)
theorem dX5_init_124 : decode cX5_init 124 = .ok (.aload_n 0, 1) := by decide +kernel
theorem tX5_init_124 {d : Nat} {x : Nat} {m : jmM} {Q : Option Value → jmM → Prop} : AW d 46 124 [some (.ref x)] [] m Q ↔ AW d 46 125 [some (.ref x)] [.ref x] m Q := A_aload_n hB_X5_init dX5_init_124 rfl
theorem dX5_init_125 : decode cX5_init 125 = .ok (.bipush 6, 2) := by decide +kernel
theorem tX5_init_125 {d : Nat} {l0 : Option Value} {v0 : Value} {m : jmM} {Q : Option Value → jmM → Prop} : AW d 46 125 [l0] [v0] m Q ↔ AW d 46 127 [l0] [.int 6, v0] m Q := A_bipush hB_X5_init dX5_init_125 rfl
theorem dX5_init_127 : decode cX5_init 127 = .ok (.newarray .long, 2) := by decide +kernel
theorem tX5_init_127 {d : Nat} {l0 : Option Value} {v1 : Value} {x : Int32} {m : jmM} {Q : Option Value → jmM → Prop} : AW d 46 127 [l0] [.int x, v1] m Q ↔ (0 ≤ x.toInt ∧ x.toInt ≤ 100000) ∧ AW d 46 129 [l0] [.ref (mN m), v1] (jNew m 21 (jx x)) Q := A_newarray hB_X5_init dX5_init_127 rfl
theorem dX5_init_129 : decode cX5_init 129 = .ok (.putfield 75, 3) := by decide +kernel
theorem tX5_init_129 {d : Nat} {l0 : Option Value} {x a : Nat} {m : jmM} {Q : Option Value → jmM → Prop} : AW d 46 129 [l0] [.ref x, .ref a] m Q ↔ (mS m a).1 = 5 ∧ AW d 46 132 [l0] [] (cR m a (jup (mR m a) 18 (some x))) Q := A_putR hB_X5_init dX5_init_129 hO_X5_init fF_5_75 rfl (fun _ => ⟨rfl, rfl⟩)
theorem tX5_init_129q {d : Nat} {l0 : Option Value} {x : Option Nat} {a : Nat} {m : jmM} {Q : Option Value → jmM → Prop} : AW d 46 129 [l0] [va_rf x, .ref a] m Q ↔ (mS m a).1 = 5 ∧ AW d 46 132 [l0] [] (cR m a (jup (mR m a) 18 x)) Q := A_putQ hB_X5_init dX5_init_129 hO_X5_init fF_5_75 rfl (fun _ => ⟨rfl, rfl⟩)
theorem tX5_init_129n {d : Nat} {l0 : Option Value} {a : Nat} {m : jmM} {Q : Option Value → jmM → Prop} : AW d 46 129 [l0] [.null, .ref a] m Q ↔ (mS m a).1 = 5 ∧ AW d 46 132 [l0] [] (cR m a (jup (mR m a) 18 none)) Q := A_putQ (x := none) hB_X5_init dX5_init_129 hO_X5_init fF_5_75 rfl (fun _ => ⟨rfl, rfl⟩)
theorem dX5_init_132 : decode cX5_init 132 = .ok (.return_, 1) := by decide +kernel
theorem tX5_init_132 {d : Nat} {l0 : Option Value} {m : jmM} {Q : Option Value → jmM → Prop} : AW d 46 132 [l0] [] m Q ↔ Q none m := A_return hB_X5_init dX5_init_132 hR_X5_init
theorem hB_X5_start : jB 47 = cX5_start := rfl
theorem hO_X5_start : jO 47 = 5 := rfl
theorem hR_X5_start : jRt 47 = (some (.object "PulledCrystal$Start")) := rfl
theorem nX5_start (d : Nat) (x0 : Nat) (m : jmM) (Q : Option Value → jmM → Prop) : CC (d + 1) 47 [.ref x0] m Q ↔ AW d 47 0 [some (.ref x0)] [] m Q := CC_body (Nat.le_of_ble_eq_true rfl)
theorem dX5_start_0 : decode cX5_start 0 = .ok (.aload_n 0, 1) := by decide +kernel
theorem tX5_start_0 {d : Nat} {x : Nat} {m : jmM} {Q : Option Value → jmM → Prop} : AW d 47 0 [some (.ref x)] [] m Q ↔ AW d 47 1 [some (.ref x)] [.ref x] m Q := A_aload_n hB_X5_start dX5_start_0 rfl
theorem dX5_start_1 : decode cX5_start 1 = .ok (.getfield 12, 3) := by decide +kernel
theorem tX5_start_1 {d : Nat} {l0 : Option Value} {a : Nat} {m : jmM} {Q : Option Value → jmM → Prop} : AW d 47 1 [l0] [.ref a] m Q ↔ (mS m a).1 = 5 ∧ AW d 47 4 [l0] [va_rf (mR m a 0)] m Q := A_getfield (f := fun m a => va_rf (mR m a 0)) hB_X5_start dX5_start_1 hO_X5_start fF_5_12 rfl
theorem dX5_start_4 : decode cX5_start 4 = .ok (.areturn, 1) := by decide +kernel
theorem tX5_start_4 {d : Nat} {l0 : Option Value} {x : Nat} {m : jmM} {Q : Option Value → jmM → Prop} : AW d 47 4 [l0] [.ref x] m Q ↔ Q (some (.ref x)) m := A_areturn hB_X5_start dX5_start_4 rfl
theorem tX5_start_4q {d : Nat} {l0 : Option Value} {x : Option Nat} {m : jmM} {Q : Option Value → jmM → Prop} : AW d 47 4 [l0] [va_rf x] m Q ↔ Q (some (va_rf x)) m := A_areturnq hB_X5_start dX5_start_4 rfl
theorem tX5_start_4n {d : Nat} {l0 : Option Value} {m : jmM} {Q : Option Value → jmM → Prop} : AW d 47 4 [l0] [.null] m Q ↔ Q (some .null) m := A_areturnN hB_X5_start dX5_start_4 rfl
theorem hB_X5_open : jB 48 = cX5_open := rfl
theorem hO_X5_open : jO 48 = 5 := rfl
theorem hR_X5_open : jRt 48 = none := rfl
theorem nX5_open (d : Nat) (x0 : Nat) (x1 : Nat) (x2 : Nat) (x3 : Int32) (m : jmM) (Q : Option Value → jmM → Prop) : CC (d + 1) 48 [.ref x0, .ref x1, .ref x2, .int x3] m Q ↔ AW d 48 0 [some (.ref x0), some (.ref x1), some (.ref x2), some (.int x3), none] [] m Q := CC_body (Nat.le_of_ble_eq_true rfl)
theorem dX5_open_0 : decode cX5_open 0 = .ok (.aload_n 0, 1) := by decide +kernel
theorem tX5_open_0 {d : Nat} {l1 l2 l3 l4 : Option Value} {x : Nat} {m : jmM} {Q : Option Value → jmM → Prop} : AW d 48 0 [some (.ref x), l1, l2, l3, l4] [] m Q ↔ AW d 48 1 [some (.ref x), l1, l2, l3, l4] [.ref x] m Q := A_aload_n hB_X5_open dX5_open_0 rfl
theorem dX5_open_1 : decode cX5_open 1 = .ok (.aload_n 1, 1) := by decide +kernel
theorem tX5_open_1 {d : Nat} {l0 l2 l3 l4 : Option Value} {v0 : Value} {x : Nat} {m : jmM} {Q : Option Value → jmM → Prop} : AW d 48 1 [l0, some (.ref x), l2, l3, l4] [v0] m Q ↔ AW d 48 2 [l0, some (.ref x), l2, l3, l4] [.ref x, v0] m Q := A_aload_n hB_X5_open dX5_open_1 rfl
theorem dX5_open_2 : decode cX5_open 2 = .ok (.putfield 18, 3) := by decide +kernel
theorem tX5_open_2 {d : Nat} {l0 l1 l2 l3 l4 : Option Value} {x a : Nat} {m : jmM} {Q : Option Value → jmM → Prop} : AW d 48 2 [l0, l1, l2, l3, l4] [.ref x, .ref a] m Q ↔ (mS m a).1 = 5 ∧ AW d 48 5 [l0, l1, l2, l3, l4] [] (cR m a (jup (mR m a) 1 (some x))) Q := A_putR hB_X5_open dX5_open_2 hO_X5_open fF_5_18 rfl (fun h => Bool.noConfusion h)
theorem tX5_open_2q {d : Nat} {l0 l1 l2 l3 l4 : Option Value} {x : Option Nat} {a : Nat} {m : jmM} {Q : Option Value → jmM → Prop} : AW d 48 2 [l0, l1, l2, l3, l4] [va_rf x, .ref a] m Q ↔ (mS m a).1 = 5 ∧ AW d 48 5 [l0, l1, l2, l3, l4] [] (cR m a (jup (mR m a) 1 x)) Q := A_putQ hB_X5_open dX5_open_2 hO_X5_open fF_5_18 rfl (fun h => Bool.noConfusion h)
theorem tX5_open_2n {d : Nat} {l0 l1 l2 l3 l4 : Option Value} {a : Nat} {m : jmM} {Q : Option Value → jmM → Prop} : AW d 48 2 [l0, l1, l2, l3, l4] [.null, .ref a] m Q ↔ (mS m a).1 = 5 ∧ AW d 48 5 [l0, l1, l2, l3, l4] [] (cR m a (jup (mR m a) 1 none)) Q := A_putQ (x := none) hB_X5_open dX5_open_2 hO_X5_open fF_5_18 rfl (fun h => Bool.noConfusion h)
theorem dX5_open_5 : decode cX5_open 5 = .ok (.aload_n 0, 1) := by decide +kernel
theorem tX5_open_5 {d : Nat} {l1 l2 l3 l4 : Option Value} {x : Nat} {m : jmM} {Q : Option Value → jmM → Prop} : AW d 48 5 [some (.ref x), l1, l2, l3, l4] [] m Q ↔ AW d 48 6 [some (.ref x), l1, l2, l3, l4] [.ref x] m Q := A_aload_n hB_X5_open dX5_open_5 rfl
theorem dX5_open_6 : decode cX5_open 6 = .ok (.aload_n 2, 1) := by decide +kernel
theorem tX5_open_6 {d : Nat} {l0 l1 l3 l4 : Option Value} {v0 : Value} {x : Nat} {m : jmM} {Q : Option Value → jmM → Prop} : AW d 48 6 [l0, l1, some (.ref x), l3, l4] [v0] m Q ↔ AW d 48 7 [l0, l1, some (.ref x), l3, l4] [.ref x, v0] m Q := A_aload_n hB_X5_open dX5_open_6 rfl
theorem dX5_open_7 : decode cX5_open 7 = .ok (.putfield 22, 3) := by decide +kernel
theorem tX5_open_7 {d : Nat} {l0 l1 l2 l3 l4 : Option Value} {x a : Nat} {m : jmM} {Q : Option Value → jmM → Prop} : AW d 48 7 [l0, l1, l2, l3, l4] [.ref x, .ref a] m Q ↔ (mS m a).1 = 5 ∧ AW d 48 10 [l0, l1, l2, l3, l4] [] (cR m a (jup (mR m a) 2 (some x))) Q := A_putR hB_X5_open dX5_open_7 hO_X5_open fF_5_22 rfl (fun h => Bool.noConfusion h)
theorem tX5_open_7q {d : Nat} {l0 l1 l2 l3 l4 : Option Value} {x : Option Nat} {a : Nat} {m : jmM} {Q : Option Value → jmM → Prop} : AW d 48 7 [l0, l1, l2, l3, l4] [va_rf x, .ref a] m Q ↔ (mS m a).1 = 5 ∧ AW d 48 10 [l0, l1, l2, l3, l4] [] (cR m a (jup (mR m a) 2 x)) Q := A_putQ hB_X5_open dX5_open_7 hO_X5_open fF_5_22 rfl (fun h => Bool.noConfusion h)
theorem tX5_open_7n {d : Nat} {l0 l1 l2 l3 l4 : Option Value} {a : Nat} {m : jmM} {Q : Option Value → jmM → Prop} : AW d 48 7 [l0, l1, l2, l3, l4] [.null, .ref a] m Q ↔ (mS m a).1 = 5 ∧ AW d 48 10 [l0, l1, l2, l3, l4] [] (cR m a (jup (mR m a) 2 none)) Q := A_putQ (x := none) hB_X5_open dX5_open_7 hO_X5_open fF_5_22 rfl (fun h => Bool.noConfusion h)
theorem dX5_open_10 : decode cX5_open 10 = .ok (.aload_n 0, 1) := by decide +kernel
theorem tX5_open_10 {d : Nat} {l1 l2 l3 l4 : Option Value} {x : Nat} {m : jmM} {Q : Option Value → jmM → Prop} : AW d 48 10 [some (.ref x), l1, l2, l3, l4] [] m Q ↔ AW d 48 11 [some (.ref x), l1, l2, l3, l4] [.ref x] m Q := A_aload_n hB_X5_open dX5_open_10 rfl
theorem dX5_open_11 : decode cX5_open 11 = .ok (.iload_n 3, 1) := by decide +kernel
theorem tX5_open_11 {d : Nat} {l0 l1 l2 l4 : Option Value} {v0 : Value} {x : Int32} {m : jmM} {Q : Option Value → jmM → Prop} : AW d 48 11 [l0, l1, l2, some (.int x), l4] [v0] m Q ↔ AW d 48 12 [l0, l1, l2, some (.int x), l4] [.int x, v0] m Q := A_iload_n hB_X5_open dX5_open_11 rfl
theorem dX5_open_12 : decode cX5_open 12 = .ok (.i2l, 1) := by decide +kernel
theorem tX5_open_12 {d : Nat} {l0 l1 l2 l3 l4 : Option Value} {v1 : Value} {x : Int32} {m : jmM} {Q : Option Value → jmM → Prop} : AW d 48 12 [l0, l1, l2, l3, l4] [.int x, v1] m Q ↔ AW d 48 13 [l0, l1, l2, l3, l4] [.long x.toInt64, v1] m Q := A_i2l hB_X5_open dX5_open_12
theorem dX5_open_13 : decode cX5_open 13 = .ok (.putfield 29, 3) := by decide +kernel
theorem tX5_open_13 {d : Nat} {l0 l1 l2 l3 l4 : Option Value} {x : Int64} {a : Nat} {m : jmM} {Q : Option Value → jmM → Prop} : AW d 48 13 [l0, l1, l2, l3, l4] [.long x, .ref a] m Q ↔ (mS m a).1 = 5 ∧ AW d 48 16 [l0, l1, l2, l3, l4] [] (cL m a (jup (mL m a) 4 x)) Q := A_putL hB_X5_open dX5_open_13 hO_X5_open fF_5_29 rfl (fun h => Bool.noConfusion h)
theorem dX5_open_16 : decode cX5_open 16 = .ok (.aload_n 0, 1) := by decide +kernel
theorem tX5_open_16 {d : Nat} {l1 l2 l3 l4 : Option Value} {x : Nat} {m : jmM} {Q : Option Value → jmM → Prop} : AW d 48 16 [some (.ref x), l1, l2, l3, l4] [] m Q ↔ AW d 48 17 [some (.ref x), l1, l2, l3, l4] [.ref x] m Q := A_aload_n hB_X5_open dX5_open_16 rfl
theorem dX5_open_17 : decode cX5_open 17 = .ok (.iconst 1, 1) := by decide +kernel
theorem tX5_open_17 {d : Nat} {l0 l1 l2 l3 l4 : Option Value} {v0 : Value} {m : jmM} {Q : Option Value → jmM → Prop} : AW d 48 17 [l0, l1, l2, l3, l4] [v0] m Q ↔ AW d 48 18 [l0, l1, l2, l3, l4] [.int 1, v0] m Q := A_iconst hB_X5_open dX5_open_17 (by decide)
theorem dX5_open_18 : decode cX5_open 18 = .ok (.putfield 25, 3) := by decide +kernel
theorem tX5_open_18 {d : Nat} {l0 l1 l2 l3 l4 : Option Value} {x : Int32} {a : Nat} {m : jmM} {Q : Option Value → jmM → Prop} : AW d 48 18 [l0, l1, l2, l3, l4] [.int x, .ref a] m Q ↔ (mS m a).1 = 5 ∧ AW d 48 21 [l0, l1, l2, l3, l4] [] (cI m a (jup (mI m a) 3 x)) Q := A_putI hB_X5_open dX5_open_18 hO_X5_open fF_5_25 rfl (fun h => Bool.noConfusion h)
theorem dX5_open_21 : decode cX5_open 21 = .ok (.aload_n 0, 1) := by decide +kernel
theorem tX5_open_21 {d : Nat} {l1 l2 l3 l4 : Option Value} {x : Nat} {m : jmM} {Q : Option Value → jmM → Prop} : AW d 48 21 [some (.ref x), l1, l2, l3, l4] [] m Q ↔ AW d 48 22 [some (.ref x), l1, l2, l3, l4] [.ref x] m Q := A_aload_n hB_X5_open dX5_open_21 rfl
theorem dX5_open_22 : decode cX5_open 22 = .ok (.aload_n 0, 1) := by decide +kernel
theorem tX5_open_22 {d : Nat} {l1 l2 l3 l4 : Option Value} {v0 : Value} {x : Nat} {m : jmM} {Q : Option Value → jmM → Prop} : AW d 48 22 [some (.ref x), l1, l2, l3, l4] [v0] m Q ↔ AW d 48 23 [some (.ref x), l1, l2, l3, l4] [.ref x, v0] m Q := A_aload_n hB_X5_open dX5_open_22 rfl
theorem dX5_open_23 : decode cX5_open 23 = .ok (.getfield 12, 3) := by decide +kernel
theorem tX5_open_23 {d : Nat} {l0 l1 l2 l3 l4 : Option Value} {v1 : Value} {a : Nat} {m : jmM} {Q : Option Value → jmM → Prop} : AW d 48 23 [l0, l1, l2, l3, l4] [.ref a, v1] m Q ↔ (mS m a).1 = 5 ∧ AW d 48 26 [l0, l1, l2, l3, l4] [va_rf (mR m a 0), v1] m Q := A_getfield (f := fun m a => va_rf (mR m a 0)) hB_X5_open dX5_open_23 hO_X5_open fF_5_12 rfl
theorem dX5_open_26 : decode cX5_open 26 = .ok (.invokevirtual 78, 3) := by decide +kernel
theorem tX5_open_26 {d : Nat} {l0 l1 l2 l3 l4 : Option Value} {v1 : Value} {a : Nat} {m : jmM} {Q : Option Value → jmM → Prop} : AW d 48 26 [l0, l1, l2, l3, l4] [.ref a, v1] m Q ↔ (mS m a).1 = 8 ∧ CC d 122 [.ref a] m (jK d 48 29 [l0, l1, l2, l3, l4] [v1] Q) := A_callV hB_X5_open dX5_open_26 hO_X5_open fS_5_78 ⟨Nat.le_of_ble_eq_true rfl, Nat.le_of_ble_eq_true rfl⟩ rfl rfl rfl
theorem dX5_open_29 : decode cX5_open 29 = .ok (.putfield 33, 3) := by decide +kernel
theorem tX5_open_29 {d : Nat} {l0 l1 l2 l3 l4 : Option Value} {x : Int32} {a : Nat} {m : jmM} {Q : Option Value → jmM → Prop} : AW d 48 29 [l0, l1, l2, l3, l4] [.int x, .ref a] m Q ↔ (mS m a).1 = 5 ∧ AW d 48 32 [l0, l1, l2, l3, l4] [] (cI m a (jup (mI m a) 5 x)) Q := A_putI hB_X5_open dX5_open_29 hO_X5_open fF_5_33 rfl (fun h => Bool.noConfusion h)
theorem dX5_open_32 : decode cX5_open 32 = .ok (.aload_n 0, 1) := by decide +kernel
theorem tX5_open_32 {d : Nat} {l1 l2 l3 l4 : Option Value} {x : Nat} {m : jmM} {Q : Option Value → jmM → Prop} : AW d 48 32 [some (.ref x), l1, l2, l3, l4] [] m Q ↔ AW d 48 33 [some (.ref x), l1, l2, l3, l4] [.ref x] m Q := A_aload_n hB_X5_open dX5_open_32 rfl
theorem dX5_open_33 : decode cX5_open 33 = .ok (.aload_n 0, 1) := by decide +kernel
theorem tX5_open_33 {d : Nat} {l1 l2 l3 l4 : Option Value} {v0 : Value} {x : Nat} {m : jmM} {Q : Option Value → jmM → Prop} : AW d 48 33 [some (.ref x), l1, l2, l3, l4] [v0] m Q ↔ AW d 48 34 [some (.ref x), l1, l2, l3, l4] [.ref x, v0] m Q := A_aload_n hB_X5_open dX5_open_33 rfl
theorem dX5_open_34 : decode cX5_open 34 = .ok (.getfield 12, 3) := by decide +kernel
theorem tX5_open_34 {d : Nat} {l0 l1 l2 l3 l4 : Option Value} {v1 : Value} {a : Nat} {m : jmM} {Q : Option Value → jmM → Prop} : AW d 48 34 [l0, l1, l2, l3, l4] [.ref a, v1] m Q ↔ (mS m a).1 = 5 ∧ AW d 48 37 [l0, l1, l2, l3, l4] [va_rf (mR m a 0), v1] m Q := A_getfield (f := fun m a => va_rf (mR m a 0)) hB_X5_open dX5_open_34 hO_X5_open fF_5_12 rfl
theorem dX5_open_37 : decode cX5_open 37 = .ok (.invokevirtual 82, 3) := by decide +kernel
theorem tX5_open_37 {d : Nat} {l0 l1 l2 l3 l4 : Option Value} {v1 : Value} {a : Nat} {m : jmM} {Q : Option Value → jmM → Prop} : AW d 48 37 [l0, l1, l2, l3, l4] [.ref a, v1] m Q ↔ (mS m a).1 = 8 ∧ CC d 125 [.ref a] m (jK d 48 40 [l0, l1, l2, l3, l4] [v1] Q) := A_callV hB_X5_open dX5_open_37 hO_X5_open fS_5_82 ⟨Nat.le_of_ble_eq_true rfl, Nat.le_of_ble_eq_true rfl⟩ rfl rfl rfl
theorem dX5_open_40 : decode cX5_open 40 = .ok (.putfield 36, 3) := by decide +kernel
theorem tX5_open_40 {d : Nat} {l0 l1 l2 l3 l4 : Option Value} {x : Int32} {a : Nat} {m : jmM} {Q : Option Value → jmM → Prop} : AW d 48 40 [l0, l1, l2, l3, l4] [.int x, .ref a] m Q ↔ (mS m a).1 = 5 ∧ AW d 48 43 [l0, l1, l2, l3, l4] [] (cI m a (jup (mI m a) 6 x)) Q := A_putI hB_X5_open dX5_open_40 hO_X5_open fF_5_36 rfl (fun h => Bool.noConfusion h)
theorem dX5_open_43 : decode cX5_open 43 = .ok (.aload_n 0, 1) := by decide +kernel
theorem tX5_open_43 {d : Nat} {l1 l2 l3 l4 : Option Value} {x : Nat} {m : jmM} {Q : Option Value → jmM → Prop} : AW d 48 43 [some (.ref x), l1, l2, l3, l4] [] m Q ↔ AW d 48 44 [some (.ref x), l1, l2, l3, l4] [.ref x] m Q := A_aload_n hB_X5_open dX5_open_43 rfl
theorem dX5_open_44 : decode cX5_open 44 = .ok (.aload_n 0, 1) := by decide +kernel
theorem tX5_open_44 {d : Nat} {l1 l2 l3 l4 : Option Value} {v0 : Value} {x : Nat} {m : jmM} {Q : Option Value → jmM → Prop} : AW d 48 44 [some (.ref x), l1, l2, l3, l4] [v0] m Q ↔ AW d 48 45 [some (.ref x), l1, l2, l3, l4] [.ref x, v0] m Q := A_aload_n hB_X5_open dX5_open_44 rfl
theorem dX5_open_45 : decode cX5_open 45 = .ok (.getfield 12, 3) := by decide +kernel
theorem tX5_open_45 {d : Nat} {l0 l1 l2 l3 l4 : Option Value} {v1 : Value} {a : Nat} {m : jmM} {Q : Option Value → jmM → Prop} : AW d 48 45 [l0, l1, l2, l3, l4] [.ref a, v1] m Q ↔ (mS m a).1 = 5 ∧ AW d 48 48 [l0, l1, l2, l3, l4] [va_rf (mR m a 0), v1] m Q := A_getfield (f := fun m a => va_rf (mR m a 0)) hB_X5_open dX5_open_45 hO_X5_open fF_5_12 rfl
theorem dX5_open_48 : decode cX5_open 48 = .ok (.invokevirtual 84, 3) := by decide +kernel
theorem tX5_open_48 {d : Nat} {l0 l1 l2 l3 l4 : Option Value} {v1 : Value} {a : Nat} {m : jmM} {Q : Option Value → jmM → Prop} : AW d 48 48 [l0, l1, l2, l3, l4] [.ref a, v1] m Q ↔ (mS m a).1 = 8 ∧ CC d 124 [.ref a] m (jK d 48 51 [l0, l1, l2, l3, l4] [v1] Q) := A_callV hB_X5_open dX5_open_48 hO_X5_open fS_5_84 ⟨Nat.le_of_ble_eq_true rfl, Nat.le_of_ble_eq_true rfl⟩ rfl rfl rfl
theorem dX5_open_51 : decode cX5_open 51 = .ok (.putfield 39, 3) := by decide +kernel
theorem tX5_open_51 {d : Nat} {l0 l1 l2 l3 l4 : Option Value} {x : Int32} {a : Nat} {m : jmM} {Q : Option Value → jmM → Prop} : AW d 48 51 [l0, l1, l2, l3, l4] [.int x, .ref a] m Q ↔ (mS m a).1 = 5 ∧ AW d 48 54 [l0, l1, l2, l3, l4] [] (cI m a (jup (mI m a) 7 x)) Q := A_putI hB_X5_open dX5_open_51 hO_X5_open fF_5_39 rfl (fun h => Bool.noConfusion h)
theorem dX5_open_54 : decode cX5_open 54 = .ok (.aload_n 0, 1) := by decide +kernel
theorem tX5_open_54 {d : Nat} {l1 l2 l3 l4 : Option Value} {x : Nat} {m : jmM} {Q : Option Value → jmM → Prop} : AW d 48 54 [some (.ref x), l1, l2, l3, l4] [] m Q ↔ AW d 48 55 [some (.ref x), l1, l2, l3, l4] [.ref x] m Q := A_aload_n hB_X5_open dX5_open_54 rfl
theorem dX5_open_55 : decode cX5_open 55 = .ok (.iconst 0, 1) := by decide +kernel
theorem tX5_open_55 {d : Nat} {l0 l1 l2 l3 l4 : Option Value} {v0 : Value} {m : jmM} {Q : Option Value → jmM → Prop} : AW d 48 55 [l0, l1, l2, l3, l4] [v0] m Q ↔ AW d 48 56 [l0, l1, l2, l3, l4] [.int 0, v0] m Q := A_iconst hB_X5_open dX5_open_55 (by decide)
theorem dX5_open_56 : decode cX5_open 56 = .ok (.putfield 42, 3) := by decide +kernel
theorem tX5_open_56 {d : Nat} {l0 l1 l2 l3 l4 : Option Value} {x : Int32} {a : Nat} {m : jmM} {Q : Option Value → jmM → Prop} : AW d 48 56 [l0, l1, l2, l3, l4] [.int x, .ref a] m Q ↔ (mS m a).1 = 5 ∧ AW d 48 59 [l0, l1, l2, l3, l4] [] (cI m a (jup (mI m a) 8 x)) Q := A_putI hB_X5_open dX5_open_56 hO_X5_open fF_5_42 rfl (fun h => Bool.noConfusion h)
theorem dX5_open_59 : decode cX5_open 59 = .ok (.aload_n 0, 1) := by decide +kernel
theorem tX5_open_59 {d : Nat} {l1 l2 l3 l4 : Option Value} {x : Nat} {m : jmM} {Q : Option Value → jmM → Prop} : AW d 48 59 [some (.ref x), l1, l2, l3, l4] [] m Q ↔ AW d 48 60 [some (.ref x), l1, l2, l3, l4] [.ref x] m Q := A_aload_n hB_X5_open dX5_open_59 rfl
theorem dX5_open_60 : decode cX5_open 60 = .ok (.iconst 0, 1) := by decide +kernel
theorem tX5_open_60 {d : Nat} {l0 l1 l2 l3 l4 : Option Value} {v0 : Value} {m : jmM} {Q : Option Value → jmM → Prop} : AW d 48 60 [l0, l1, l2, l3, l4] [v0] m Q ↔ AW d 48 61 [l0, l1, l2, l3, l4] [.int 0, v0] m Q := A_iconst hB_X5_open dX5_open_60 (by decide)
theorem dX5_open_61 : decode cX5_open 61 = .ok (.putfield 45, 3) := by decide +kernel
theorem tX5_open_61 {d : Nat} {l0 l1 l2 l3 l4 : Option Value} {x : Int32} {a : Nat} {m : jmM} {Q : Option Value → jmM → Prop} : AW d 48 61 [l0, l1, l2, l3, l4] [.int x, .ref a] m Q ↔ (mS m a).1 = 5 ∧ AW d 48 64 [l0, l1, l2, l3, l4] [] (cI m a (jup (mI m a) 9 x)) Q := A_putI hB_X5_open dX5_open_61 hO_X5_open fF_5_45 rfl (fun h => Bool.noConfusion h)
theorem dX5_open_64 : decode cX5_open 64 = .ok (.aload_n 0, 1) := by decide +kernel
theorem tX5_open_64 {d : Nat} {l1 l2 l3 l4 : Option Value} {x : Nat} {m : jmM} {Q : Option Value → jmM → Prop} : AW d 48 64 [some (.ref x), l1, l2, l3, l4] [] m Q ↔ AW d 48 65 [some (.ref x), l1, l2, l3, l4] [.ref x] m Q := A_aload_n hB_X5_open dX5_open_64 rfl
theorem dX5_open_65 : decode cX5_open 65 = .ok (.iconst 0, 1) := by decide +kernel
theorem tX5_open_65 {d : Nat} {l0 l1 l2 l3 l4 : Option Value} {v0 : Value} {m : jmM} {Q : Option Value → jmM → Prop} : AW d 48 65 [l0, l1, l2, l3, l4] [v0] m Q ↔ AW d 48 66 [l0, l1, l2, l3, l4] [.int 0, v0] m Q := A_iconst hB_X5_open dX5_open_65 (by decide)
theorem dX5_open_66 : decode cX5_open 66 = .ok (.putfield 48, 3) := by decide +kernel
theorem tX5_open_66 {d : Nat} {l0 l1 l2 l3 l4 : Option Value} {x : Int32} {a : Nat} {m : jmM} {Q : Option Value → jmM → Prop} : AW d 48 66 [l0, l1, l2, l3, l4] [.int x, .ref a] m Q ↔ (mS m a).1 = 5 ∧ AW d 48 69 [l0, l1, l2, l3, l4] [] (cI m a (jup (mI m a) 10 x)) Q := A_putI hB_X5_open dX5_open_66 hO_X5_open fF_5_48 rfl (fun h => Bool.noConfusion h)
theorem dX5_open_69 : decode cX5_open 69 = .ok (.aload_n 0, 1) := by decide +kernel
theorem tX5_open_69 {d : Nat} {l1 l2 l3 l4 : Option Value} {x : Nat} {m : jmM} {Q : Option Value → jmM → Prop} : AW d 48 69 [some (.ref x), l1, l2, l3, l4] [] m Q ↔ AW d 48 70 [some (.ref x), l1, l2, l3, l4] [.ref x] m Q := A_aload_n hB_X5_open dX5_open_69 rfl
theorem dX5_open_70 : decode cX5_open 70 = .ok (.iconst 0, 1) := by decide +kernel
theorem tX5_open_70 {d : Nat} {l0 l1 l2 l3 l4 : Option Value} {v0 : Value} {m : jmM} {Q : Option Value → jmM → Prop} : AW d 48 70 [l0, l1, l2, l3, l4] [v0] m Q ↔ AW d 48 71 [l0, l1, l2, l3, l4] [.int 0, v0] m Q := A_iconst hB_X5_open dX5_open_70 (by decide)
theorem dX5_open_71 : decode cX5_open 71 = .ok (.putfield 51, 3) := by decide +kernel
theorem tX5_open_71 {d : Nat} {l0 l1 l2 l3 l4 : Option Value} {x : Int32} {a : Nat} {m : jmM} {Q : Option Value → jmM → Prop} : AW d 48 71 [l0, l1, l2, l3, l4] [.int x, .ref a] m Q ↔ (mS m a).1 = 5 ∧ AW d 48 74 [l0, l1, l2, l3, l4] [] (cI m a (jup (mI m a) 11 x)) Q := A_putI hB_X5_open dX5_open_71 hO_X5_open fF_5_51 rfl (fun h => Bool.noConfusion h)
theorem dX5_open_74 : decode cX5_open 74 = .ok (.iconst 0, 1) := by decide +kernel
theorem tX5_open_74 {d : Nat} {l0 l1 l2 l3 l4 : Option Value} {m : jmM} {Q : Option Value → jmM → Prop} : AW d 48 74 [l0, l1, l2, l3, l4] [] m Q ↔ AW d 48 75 [l0, l1, l2, l3, l4] [.int 0] m Q := A_iconst hB_X5_open dX5_open_74 (by decide)
theorem dX5_open_75 : decode cX5_open 75 = .ok (.istore 4, 2) := by decide +kernel
theorem tX5_open_75 {d : Nat} {l0 l1 l2 l3 l4 : Option Value} {x : Int32} {m : jmM} {Q : Option Value → jmM → Prop} : AW d 48 75 [l0, l1, l2, l3, l4] [.int x] m Q ↔ AW d 48 77 [l0, l1, l2, jc1 l3, some (.int x)] [] m Q := A_istore hB_X5_open dX5_open_75 (Nat.le_of_ble_eq_true rfl) rfl
theorem dX5_open_77 : decode cX5_open 77 = .ok (.iload 4, 2) := by decide +kernel
theorem tX5_open_77 {d : Nat} {l0 l1 l2 l3 : Option Value} {x : Int32} {m : jmM} {Q : Option Value → jmM → Prop} : AW d 48 77 [l0, l1, l2, l3, some (.int x)] [] m Q ↔ AW d 48 79 [l0, l1, l2, l3, some (.int x)] [.int x] m Q := A_iload hB_X5_open dX5_open_77 rfl
theorem dX5_open_79 : decode cX5_open 79 = .ok (.bipush 6, 2) := by decide +kernel
theorem tX5_open_79 {d : Nat} {l0 l1 l2 l3 l4 : Option Value} {v0 : Value} {m : jmM} {Q : Option Value → jmM → Prop} : AW d 48 79 [l0, l1, l2, l3, l4] [v0] m Q ↔ AW d 48 81 [l0, l1, l2, l3, l4] [.int 6, v0] m Q := A_bipush hB_X5_open dX5_open_79 rfl
theorem dX5_open_81 : decode cX5_open 81 = .ok (.if_icmp .ge 26, 3) := by decide +kernel
theorem tX5_open_81 {d : Nat} {l0 l1 l2 l3 l4 : Option Value} {x y : Int32} {m : jmM} {Q : Option Value → jmM → Prop} : AW d 48 81 [l0, l1, l2, l3, l4] [.int y, .int x] m Q ↔ if y ≤ x then AW d 48 107 [l0, l1, l2, l3, l4] [] m Q else AW d 48 84 [l0, l1, l2, l3, l4] [] m Q := A_icmp_ge hB_X5_open dX5_open_81 (by decide)
theorem dX5_open_84 : decode cX5_open 84 = .ok (.aload_n 0, 1) := by decide +kernel
theorem tX5_open_84 {d : Nat} {l1 l2 l3 l4 : Option Value} {x : Nat} {m : jmM} {Q : Option Value → jmM → Prop} : AW d 48 84 [some (.ref x), l1, l2, l3, l4] [] m Q ↔ AW d 48 85 [some (.ref x), l1, l2, l3, l4] [.ref x] m Q := A_aload_n hB_X5_open dX5_open_84 rfl
theorem dX5_open_85 : decode cX5_open 85 = .ok (.getfield 75, 3) := by decide +kernel
theorem tX5_open_85 {d : Nat} {l0 l1 l2 l3 l4 : Option Value} {a : Nat} {m : jmM} {Q : Option Value → jmM → Prop} : AW d 48 85 [l0, l1, l2, l3, l4] [.ref a] m Q ↔ (mS m a).1 = 5 ∧ AW d 48 88 [l0, l1, l2, l3, l4] [va_rf (mR m a 18)] m Q := A_getfield (f := fun m a => va_rf (mR m a 18)) hB_X5_open dX5_open_85 hO_X5_open fF_5_75 rfl
theorem dX5_open_88 : decode cX5_open 88 = .ok (.iload 4, 2) := by decide +kernel
theorem tX5_open_88 {d : Nat} {l0 l1 l2 l3 : Option Value} {v0 : Value} {x : Int32} {m : jmM} {Q : Option Value → jmM → Prop} : AW d 48 88 [l0, l1, l2, l3, some (.int x)] [v0] m Q ↔ AW d 48 90 [l0, l1, l2, l3, some (.int x)] [.int x, v0] m Q := A_iload hB_X5_open dX5_open_88 rfl
theorem dX5_open_90 : decode cX5_open 90 = .ok (.aload_n 0, 1) := by decide +kernel
theorem tX5_open_90 {d : Nat} {l1 l2 l3 l4 : Option Value} {v0 v1 : Value} {x : Nat} {m : jmM} {Q : Option Value → jmM → Prop} : AW d 48 90 [some (.ref x), l1, l2, l3, l4] [v0, v1] m Q ↔ AW d 48 91 [some (.ref x), l1, l2, l3, l4] [.ref x, v0, v1] m Q := A_aload_n hB_X5_open dX5_open_90 rfl
theorem dX5_open_91 : decode cX5_open 91 = .ok (.getfield 12, 3) := by decide +kernel
theorem tX5_open_91 {d : Nat} {l0 l1 l2 l3 l4 : Option Value} {v1 v2 : Value} {a : Nat} {m : jmM} {Q : Option Value → jmM → Prop} : AW d 48 91 [l0, l1, l2, l3, l4] [.ref a, v1, v2] m Q ↔ (mS m a).1 = 5 ∧ AW d 48 94 [l0, l1, l2, l3, l4] [va_rf (mR m a 0), v1, v2] m Q := A_getfield (f := fun m a => va_rf (mR m a 0)) hB_X5_open dX5_open_91 hO_X5_open fF_5_12 rfl
theorem dX5_open_94 : decode cX5_open 94 = .ok (.iload 4, 2) := by decide +kernel
theorem tX5_open_94 {d : Nat} {l0 l1 l2 l3 : Option Value} {v0 v1 v2 : Value} {x : Int32} {m : jmM} {Q : Option Value → jmM → Prop} : AW d 48 94 [l0, l1, l2, l3, some (.int x)] [v0, v1, v2] m Q ↔ AW d 48 96 [l0, l1, l2, l3, some (.int x)] [.int x, v0, v1, v2] m Q := A_iload hB_X5_open dX5_open_94 rfl
theorem dX5_open_96 : decode cX5_open 96 = .ok (.invokevirtual 86, 3) := by decide +kernel
theorem tX5_open_96 {d : Nat} {l0 l1 l2 l3 l4 : Option Value} {v2 v3 : Value} {y0 : Value} {a : Nat} {m : jmM} {Q : Option Value → jmM → Prop} : AW d 48 96 [l0, l1, l2, l3, l4] [y0, .ref a, v2, v3] m Q ↔ (mS m a).1 = 8 ∧ CC d 128 [.ref a, y0] m (jK d 48 99 [l0, l1, l2, l3, l4] [v2, v3] Q) := A_callV hB_X5_open dX5_open_96 hO_X5_open fS_5_86 ⟨Nat.le_of_ble_eq_true rfl, Nat.le_of_ble_eq_true rfl⟩ rfl rfl rfl
theorem dX5_open_99 : decode cX5_open 99 = .ok (.i2l, 1) := by decide +kernel
theorem tX5_open_99 {d : Nat} {l0 l1 l2 l3 l4 : Option Value} {v1 v2 : Value} {x : Int32} {m : jmM} {Q : Option Value → jmM → Prop} : AW d 48 99 [l0, l1, l2, l3, l4] [.int x, v1, v2] m Q ↔ AW d 48 100 [l0, l1, l2, l3, l4] [.long x.toInt64, v1, v2] m Q := A_i2l hB_X5_open dX5_open_99
theorem dX5_open_100 : decode cX5_open 100 = .ok (.lastore, 1) := by decide +kernel
theorem tX5_open_100 {d : Nat} {l0 l1 l2 l3 l4 : Option Value} {x : Int64} {i : Int32} {a : Nat} {m : jmM} {Q : Option Value → jmM → Prop} : AW d 48 100 [l0, l1, l2, l3, l4] [.long x, .int i, .ref a] m Q ↔ ((mS m a).1 = 21 ∧ jIx i (mS m a).2) ∧ AW d 48 101 [l0, l1, l2, l3, l4] [] (cL m a (jup (mL m a) (jx i) x)) Q := A_lastore hB_X5_open dX5_open_100
theorem dX5_open_101 : decode cX5_open 101 = .ok (.iinc 4 1, 3) := by decide +kernel
theorem tX5_open_101 {d : Nat} {l0 l1 l2 l3 : Option Value} {x : Int32} {m : jmM} {Q : Option Value → jmM → Prop} : AW d 48 101 [l0, l1, l2, l3, some (.int x)] [] m Q ↔ AW d 48 104 [l0, l1, l2, jc1 l3, some (.int (x + 1))] [] m Q := A_iinc hB_X5_open dX5_open_101 rfl (Nat.le_of_ble_eq_true rfl) (v := 1) (by decide) rfl
theorem dX5_open_104 : decode cX5_open 104 = .ok (.goto (-27), 3) := by decide +kernel
theorem tX5_open_104 {d : Nat} {l0 l1 l2 l3 l4 : Option Value} {m : jmM} {Q : Option Value → jmM → Prop} : AW d 48 104 [l0, l1, l2, l3, l4] [] m Q ↔ AW d 48 77 [l0, l1, l2, l3, l4] [] m Q := A_goto hB_X5_open dX5_open_104 (by decide)
theorem dX5_open_107 : decode cX5_open 107 = .ok (.return_, 1) := by decide +kernel
theorem tX5_open_107 {d : Nat} {l0 l1 l2 l3 l4 : Option Value} {m : jmM} {Q : Option Value → jmM → Prop} : AW d 48 107 [l0, l1, l2, l3, l4] [] m Q ↔ Q none m := A_return hB_X5_open dX5_open_107 hR_X5_open
theorem hB_X5_becomeLike : jB 49 = cX5_becomeLike := rfl
theorem hO_X5_becomeLike : jO 49 = 5 := rfl
theorem hR_X5_becomeLike : jRt 49 = none := rfl
theorem nX5_becomeLike (d : Nat) (x0 : Nat) (x1 : Nat) (m : jmM) (Q : Option Value → jmM → Prop) : CC (d + 1) 49 [.ref x0, .ref x1] m Q ↔ AW d 49 0 [some (.ref x0), some (.ref x1), none] [] m Q := CC_body (Nat.le_of_ble_eq_true rfl)
theorem dX5_becomeLike_0 : decode cX5_becomeLike 0 = .ok (.aload_n 0, 1) := by decide +kernel
theorem tX5_becomeLike_0 {d : Nat} {l1 l2 : Option Value} {x : Nat} {m : jmM} {Q : Option Value → jmM → Prop} : AW d 49 0 [some (.ref x), l1, l2] [] m Q ↔ AW d 49 1 [some (.ref x), l1, l2] [.ref x] m Q := A_aload_n hB_X5_becomeLike dX5_becomeLike_0 rfl
theorem dX5_becomeLike_1 : decode cX5_becomeLike 1 = .ok (.getfield 12, 3) := by decide +kernel
theorem tX5_becomeLike_1 {d : Nat} {l0 l1 l2 : Option Value} {a : Nat} {m : jmM} {Q : Option Value → jmM → Prop} : AW d 49 1 [l0, l1, l2] [.ref a] m Q ↔ (mS m a).1 = 5 ∧ AW d 49 4 [l0, l1, l2] [va_rf (mR m a 0)] m Q := A_getfield (f := fun m a => va_rf (mR m a 0)) hB_X5_becomeLike dX5_becomeLike_1 hO_X5_becomeLike fF_5_12 rfl
theorem dX5_becomeLike_4 : decode cX5_becomeLike 4 = .ok (.aload_n 1, 1) := by decide +kernel
theorem tX5_becomeLike_4 {d : Nat} {l0 l2 : Option Value} {v0 : Value} {x : Nat} {m : jmM} {Q : Option Value → jmM → Prop} : AW d 49 4 [l0, some (.ref x), l2] [v0] m Q ↔ AW d 49 5 [l0, some (.ref x), l2] [.ref x, v0] m Q := A_aload_n hB_X5_becomeLike dX5_becomeLike_4 rfl
theorem dX5_becomeLike_5 : decode cX5_becomeLike 5 = .ok (.getfield 12, 3) := by decide +kernel
theorem tX5_becomeLike_5 {d : Nat} {l0 l1 l2 : Option Value} {v1 : Value} {a : Nat} {m : jmM} {Q : Option Value → jmM → Prop} : AW d 49 5 [l0, l1, l2] [.ref a, v1] m Q ↔ (mS m a).1 = 5 ∧ AW d 49 8 [l0, l1, l2] [va_rf (mR m a 0), v1] m Q := A_getfield (f := fun m a => va_rf (mR m a 0)) hB_X5_becomeLike dX5_becomeLike_5 hO_X5_becomeLike fF_5_12 rfl
theorem dX5_becomeLike_8 : decode cX5_becomeLike 8 = .ok (.invokevirtual 90, 3) := by decide +kernel
theorem tX5_becomeLike_8 {d : Nat} {l0 l1 l2 : Option Value} {y0 : Value} {a : Nat} {m : jmM} {Q : Option Value → jmM → Prop} : AW d 49 8 [l0, l1, l2] [y0, .ref a] m Q ↔ (mS m a).1 = 8 ∧ CC d 121 [.ref a, y0] m (jK d 49 11 [l0, l1, l2] [] Q) := A_callV hB_X5_becomeLike dX5_becomeLike_8 hO_X5_becomeLike fS_5_90 ⟨Nat.le_of_ble_eq_true rfl, Nat.le_of_ble_eq_true rfl⟩ rfl rfl rfl
theorem dX5_becomeLike_11 : decode cX5_becomeLike 11 = .ok (.aload_n 0, 1) := by decide +kernel
theorem tX5_becomeLike_11 {d : Nat} {l1 l2 : Option Value} {x : Nat} {m : jmM} {Q : Option Value → jmM → Prop} : AW d 49 11 [some (.ref x), l1, l2] [] m Q ↔ AW d 49 12 [some (.ref x), l1, l2] [.ref x] m Q := A_aload_n hB_X5_becomeLike dX5_becomeLike_11 rfl
theorem dX5_becomeLike_12 : decode cX5_becomeLike 12 = .ok (.aload_n 1, 1) := by decide +kernel
theorem tX5_becomeLike_12 {d : Nat} {l0 l2 : Option Value} {v0 : Value} {x : Nat} {m : jmM} {Q : Option Value → jmM → Prop} : AW d 49 12 [l0, some (.ref x), l2] [v0] m Q ↔ AW d 49 13 [l0, some (.ref x), l2] [.ref x, v0] m Q := A_aload_n hB_X5_becomeLike dX5_becomeLike_12 rfl
theorem dX5_becomeLike_13 : decode cX5_becomeLike 13 = .ok (.getfield 18, 3) := by decide +kernel
theorem tX5_becomeLike_13 {d : Nat} {l0 l1 l2 : Option Value} {v1 : Value} {a : Nat} {m : jmM} {Q : Option Value → jmM → Prop} : AW d 49 13 [l0, l1, l2] [.ref a, v1] m Q ↔ (mS m a).1 = 5 ∧ AW d 49 16 [l0, l1, l2] [va_rf (mR m a 1), v1] m Q := A_getfield (f := fun m a => va_rf (mR m a 1)) hB_X5_becomeLike dX5_becomeLike_13 hO_X5_becomeLike fF_5_18 rfl
theorem dX5_becomeLike_16 : decode cX5_becomeLike 16 = .ok (.putfield 18, 3) := by decide +kernel
theorem tX5_becomeLike_16 {d : Nat} {l0 l1 l2 : Option Value} {x a : Nat} {m : jmM} {Q : Option Value → jmM → Prop} : AW d 49 16 [l0, l1, l2] [.ref x, .ref a] m Q ↔ (mS m a).1 = 5 ∧ AW d 49 19 [l0, l1, l2] [] (cR m a (jup (mR m a) 1 (some x))) Q := A_putR hB_X5_becomeLike dX5_becomeLike_16 hO_X5_becomeLike fF_5_18 rfl (fun h => Bool.noConfusion h)
theorem tX5_becomeLike_16q {d : Nat} {l0 l1 l2 : Option Value} {x : Option Nat} {a : Nat} {m : jmM} {Q : Option Value → jmM → Prop} : AW d 49 16 [l0, l1, l2] [va_rf x, .ref a] m Q ↔ (mS m a).1 = 5 ∧ AW d 49 19 [l0, l1, l2] [] (cR m a (jup (mR m a) 1 x)) Q := A_putQ hB_X5_becomeLike dX5_becomeLike_16 hO_X5_becomeLike fF_5_18 rfl (fun h => Bool.noConfusion h)
theorem tX5_becomeLike_16n {d : Nat} {l0 l1 l2 : Option Value} {a : Nat} {m : jmM} {Q : Option Value → jmM → Prop} : AW d 49 16 [l0, l1, l2] [.null, .ref a] m Q ↔ (mS m a).1 = 5 ∧ AW d 49 19 [l0, l1, l2] [] (cR m a (jup (mR m a) 1 none)) Q := A_putQ (x := none) hB_X5_becomeLike dX5_becomeLike_16 hO_X5_becomeLike fF_5_18 rfl (fun h => Bool.noConfusion h)
theorem dX5_becomeLike_19 : decode cX5_becomeLike 19 = .ok (.aload_n 0, 1) := by decide +kernel
theorem tX5_becomeLike_19 {d : Nat} {l1 l2 : Option Value} {x : Nat} {m : jmM} {Q : Option Value → jmM → Prop} : AW d 49 19 [some (.ref x), l1, l2] [] m Q ↔ AW d 49 20 [some (.ref x), l1, l2] [.ref x] m Q := A_aload_n hB_X5_becomeLike dX5_becomeLike_19 rfl
theorem dX5_becomeLike_20 : decode cX5_becomeLike 20 = .ok (.aload_n 1, 1) := by decide +kernel
theorem tX5_becomeLike_20 {d : Nat} {l0 l2 : Option Value} {v0 : Value} {x : Nat} {m : jmM} {Q : Option Value → jmM → Prop} : AW d 49 20 [l0, some (.ref x), l2] [v0] m Q ↔ AW d 49 21 [l0, some (.ref x), l2] [.ref x, v0] m Q := A_aload_n hB_X5_becomeLike dX5_becomeLike_20 rfl
theorem dX5_becomeLike_21 : decode cX5_becomeLike 21 = .ok (.getfield 22, 3) := by decide +kernel
theorem tX5_becomeLike_21 {d : Nat} {l0 l1 l2 : Option Value} {v1 : Value} {a : Nat} {m : jmM} {Q : Option Value → jmM → Prop} : AW d 49 21 [l0, l1, l2] [.ref a, v1] m Q ↔ (mS m a).1 = 5 ∧ AW d 49 24 [l0, l1, l2] [va_rf (mR m a 2), v1] m Q := A_getfield (f := fun m a => va_rf (mR m a 2)) hB_X5_becomeLike dX5_becomeLike_21 hO_X5_becomeLike fF_5_22 rfl
theorem dX5_becomeLike_24 : decode cX5_becomeLike 24 = .ok (.putfield 22, 3) := by decide +kernel
theorem tX5_becomeLike_24 {d : Nat} {l0 l1 l2 : Option Value} {x a : Nat} {m : jmM} {Q : Option Value → jmM → Prop} : AW d 49 24 [l0, l1, l2] [.ref x, .ref a] m Q ↔ (mS m a).1 = 5 ∧ AW d 49 27 [l0, l1, l2] [] (cR m a (jup (mR m a) 2 (some x))) Q := A_putR hB_X5_becomeLike dX5_becomeLike_24 hO_X5_becomeLike fF_5_22 rfl (fun h => Bool.noConfusion h)
theorem tX5_becomeLike_24q {d : Nat} {l0 l1 l2 : Option Value} {x : Option Nat} {a : Nat} {m : jmM} {Q : Option Value → jmM → Prop} : AW d 49 24 [l0, l1, l2] [va_rf x, .ref a] m Q ↔ (mS m a).1 = 5 ∧ AW d 49 27 [l0, l1, l2] [] (cR m a (jup (mR m a) 2 x)) Q := A_putQ hB_X5_becomeLike dX5_becomeLike_24 hO_X5_becomeLike fF_5_22 rfl (fun h => Bool.noConfusion h)
theorem tX5_becomeLike_24n {d : Nat} {l0 l1 l2 : Option Value} {a : Nat} {m : jmM} {Q : Option Value → jmM → Prop} : AW d 49 24 [l0, l1, l2] [.null, .ref a] m Q ↔ (mS m a).1 = 5 ∧ AW d 49 27 [l0, l1, l2] [] (cR m a (jup (mR m a) 2 none)) Q := A_putQ (x := none) hB_X5_becomeLike dX5_becomeLike_24 hO_X5_becomeLike fF_5_22 rfl (fun h => Bool.noConfusion h)
theorem dX5_becomeLike_27 : decode cX5_becomeLike 27 = .ok (.aload_n 0, 1) := by decide +kernel
theorem tX5_becomeLike_27 {d : Nat} {l1 l2 : Option Value} {x : Nat} {m : jmM} {Q : Option Value → jmM → Prop} : AW d 49 27 [some (.ref x), l1, l2] [] m Q ↔ AW d 49 28 [some (.ref x), l1, l2] [.ref x] m Q := A_aload_n hB_X5_becomeLike dX5_becomeLike_27 rfl
theorem dX5_becomeLike_28 : decode cX5_becomeLike 28 = .ok (.aload_n 1, 1) := by decide +kernel
theorem tX5_becomeLike_28 {d : Nat} {l0 l2 : Option Value} {v0 : Value} {x : Nat} {m : jmM} {Q : Option Value → jmM → Prop} : AW d 49 28 [l0, some (.ref x), l2] [v0] m Q ↔ AW d 49 29 [l0, some (.ref x), l2] [.ref x, v0] m Q := A_aload_n hB_X5_becomeLike dX5_becomeLike_28 rfl
theorem dX5_becomeLike_29 : decode cX5_becomeLike 29 = .ok (.getfield 25, 3) := by decide +kernel
theorem tX5_becomeLike_29 {d : Nat} {l0 l1 l2 : Option Value} {v1 : Value} {a : Nat} {m : jmM} {Q : Option Value → jmM → Prop} : AW d 49 29 [l0, l1, l2] [.ref a, v1] m Q ↔ (mS m a).1 = 5 ∧ AW d 49 32 [l0, l1, l2] [.int (mI m a 3), v1] m Q := A_getfield (f := fun m a => .int (mI m a 3)) hB_X5_becomeLike dX5_becomeLike_29 hO_X5_becomeLike fF_5_25 rfl
theorem dX5_becomeLike_32 : decode cX5_becomeLike 32 = .ok (.putfield 25, 3) := by decide +kernel
theorem tX5_becomeLike_32 {d : Nat} {l0 l1 l2 : Option Value} {x : Int32} {a : Nat} {m : jmM} {Q : Option Value → jmM → Prop} : AW d 49 32 [l0, l1, l2] [.int x, .ref a] m Q ↔ (mS m a).1 = 5 ∧ AW d 49 35 [l0, l1, l2] [] (cI m a (jup (mI m a) 3 x)) Q := A_putI hB_X5_becomeLike dX5_becomeLike_32 hO_X5_becomeLike fF_5_25 rfl (fun h => Bool.noConfusion h)
theorem dX5_becomeLike_35 : decode cX5_becomeLike 35 = .ok (.aload_n 0, 1) := by decide +kernel
theorem tX5_becomeLike_35 {d : Nat} {l1 l2 : Option Value} {x : Nat} {m : jmM} {Q : Option Value → jmM → Prop} : AW d 49 35 [some (.ref x), l1, l2] [] m Q ↔ AW d 49 36 [some (.ref x), l1, l2] [.ref x] m Q := A_aload_n hB_X5_becomeLike dX5_becomeLike_35 rfl
theorem dX5_becomeLike_36 : decode cX5_becomeLike 36 = .ok (.aload_n 1, 1) := by decide +kernel
theorem tX5_becomeLike_36 {d : Nat} {l0 l2 : Option Value} {v0 : Value} {x : Nat} {m : jmM} {Q : Option Value → jmM → Prop} : AW d 49 36 [l0, some (.ref x), l2] [v0] m Q ↔ AW d 49 37 [l0, some (.ref x), l2] [.ref x, v0] m Q := A_aload_n hB_X5_becomeLike dX5_becomeLike_36 rfl
theorem dX5_becomeLike_37 : decode cX5_becomeLike 37 = .ok (.getfield 29, 3) := by decide +kernel
theorem tX5_becomeLike_37 {d : Nat} {l0 l1 l2 : Option Value} {v1 : Value} {a : Nat} {m : jmM} {Q : Option Value → jmM → Prop} : AW d 49 37 [l0, l1, l2] [.ref a, v1] m Q ↔ (mS m a).1 = 5 ∧ AW d 49 40 [l0, l1, l2] [.long (mL m a 4), v1] m Q := A_getfield (f := fun m a => .long (mL m a 4)) hB_X5_becomeLike dX5_becomeLike_37 hO_X5_becomeLike fF_5_29 rfl
theorem dX5_becomeLike_40 : decode cX5_becomeLike 40 = .ok (.putfield 29, 3) := by decide +kernel
theorem tX5_becomeLike_40 {d : Nat} {l0 l1 l2 : Option Value} {x : Int64} {a : Nat} {m : jmM} {Q : Option Value → jmM → Prop} : AW d 49 40 [l0, l1, l2] [.long x, .ref a] m Q ↔ (mS m a).1 = 5 ∧ AW d 49 43 [l0, l1, l2] [] (cL m a (jup (mL m a) 4 x)) Q := A_putL hB_X5_becomeLike dX5_becomeLike_40 hO_X5_becomeLike fF_5_29 rfl (fun h => Bool.noConfusion h)
theorem dX5_becomeLike_43 : decode cX5_becomeLike 43 = .ok (.aload_n 0, 1) := by decide +kernel
theorem tX5_becomeLike_43 {d : Nat} {l1 l2 : Option Value} {x : Nat} {m : jmM} {Q : Option Value → jmM → Prop} : AW d 49 43 [some (.ref x), l1, l2] [] m Q ↔ AW d 49 44 [some (.ref x), l1, l2] [.ref x] m Q := A_aload_n hB_X5_becomeLike dX5_becomeLike_43 rfl
theorem dX5_becomeLike_44 : decode cX5_becomeLike 44 = .ok (.aload_n 1, 1) := by decide +kernel
theorem tX5_becomeLike_44 {d : Nat} {l0 l2 : Option Value} {v0 : Value} {x : Nat} {m : jmM} {Q : Option Value → jmM → Prop} : AW d 49 44 [l0, some (.ref x), l2] [v0] m Q ↔ AW d 49 45 [l0, some (.ref x), l2] [.ref x, v0] m Q := A_aload_n hB_X5_becomeLike dX5_becomeLike_44 rfl
theorem dX5_becomeLike_45 : decode cX5_becomeLike 45 = .ok (.getfield 33, 3) := by decide +kernel
theorem tX5_becomeLike_45 {d : Nat} {l0 l1 l2 : Option Value} {v1 : Value} {a : Nat} {m : jmM} {Q : Option Value → jmM → Prop} : AW d 49 45 [l0, l1, l2] [.ref a, v1] m Q ↔ (mS m a).1 = 5 ∧ AW d 49 48 [l0, l1, l2] [.int (mI m a 5), v1] m Q := A_getfield (f := fun m a => .int (mI m a 5)) hB_X5_becomeLike dX5_becomeLike_45 hO_X5_becomeLike fF_5_33 rfl
theorem dX5_becomeLike_48 : decode cX5_becomeLike 48 = .ok (.putfield 33, 3) := by decide +kernel
theorem tX5_becomeLike_48 {d : Nat} {l0 l1 l2 : Option Value} {x : Int32} {a : Nat} {m : jmM} {Q : Option Value → jmM → Prop} : AW d 49 48 [l0, l1, l2] [.int x, .ref a] m Q ↔ (mS m a).1 = 5 ∧ AW d 49 51 [l0, l1, l2] [] (cI m a (jup (mI m a) 5 x)) Q := A_putI hB_X5_becomeLike dX5_becomeLike_48 hO_X5_becomeLike fF_5_33 rfl (fun h => Bool.noConfusion h)
theorem dX5_becomeLike_51 : decode cX5_becomeLike 51 = .ok (.aload_n 0, 1) := by decide +kernel
theorem tX5_becomeLike_51 {d : Nat} {l1 l2 : Option Value} {x : Nat} {m : jmM} {Q : Option Value → jmM → Prop} : AW d 49 51 [some (.ref x), l1, l2] [] m Q ↔ AW d 49 52 [some (.ref x), l1, l2] [.ref x] m Q := A_aload_n hB_X5_becomeLike dX5_becomeLike_51 rfl
theorem dX5_becomeLike_52 : decode cX5_becomeLike 52 = .ok (.aload_n 1, 1) := by decide +kernel
theorem tX5_becomeLike_52 {d : Nat} {l0 l2 : Option Value} {v0 : Value} {x : Nat} {m : jmM} {Q : Option Value → jmM → Prop} : AW d 49 52 [l0, some (.ref x), l2] [v0] m Q ↔ AW d 49 53 [l0, some (.ref x), l2] [.ref x, v0] m Q := A_aload_n hB_X5_becomeLike dX5_becomeLike_52 rfl
theorem dX5_becomeLike_53 : decode cX5_becomeLike 53 = .ok (.getfield 36, 3) := by decide +kernel
theorem tX5_becomeLike_53 {d : Nat} {l0 l1 l2 : Option Value} {v1 : Value} {a : Nat} {m : jmM} {Q : Option Value → jmM → Prop} : AW d 49 53 [l0, l1, l2] [.ref a, v1] m Q ↔ (mS m a).1 = 5 ∧ AW d 49 56 [l0, l1, l2] [.int (mI m a 6), v1] m Q := A_getfield (f := fun m a => .int (mI m a 6)) hB_X5_becomeLike dX5_becomeLike_53 hO_X5_becomeLike fF_5_36 rfl
theorem dX5_becomeLike_56 : decode cX5_becomeLike 56 = .ok (.putfield 36, 3) := by decide +kernel
theorem tX5_becomeLike_56 {d : Nat} {l0 l1 l2 : Option Value} {x : Int32} {a : Nat} {m : jmM} {Q : Option Value → jmM → Prop} : AW d 49 56 [l0, l1, l2] [.int x, .ref a] m Q ↔ (mS m a).1 = 5 ∧ AW d 49 59 [l0, l1, l2] [] (cI m a (jup (mI m a) 6 x)) Q := A_putI hB_X5_becomeLike dX5_becomeLike_56 hO_X5_becomeLike fF_5_36 rfl (fun h => Bool.noConfusion h)
theorem dX5_becomeLike_59 : decode cX5_becomeLike 59 = .ok (.aload_n 0, 1) := by decide +kernel
theorem tX5_becomeLike_59 {d : Nat} {l1 l2 : Option Value} {x : Nat} {m : jmM} {Q : Option Value → jmM → Prop} : AW d 49 59 [some (.ref x), l1, l2] [] m Q ↔ AW d 49 60 [some (.ref x), l1, l2] [.ref x] m Q := A_aload_n hB_X5_becomeLike dX5_becomeLike_59 rfl
theorem dX5_becomeLike_60 : decode cX5_becomeLike 60 = .ok (.aload_n 1, 1) := by decide +kernel
theorem tX5_becomeLike_60 {d : Nat} {l0 l2 : Option Value} {v0 : Value} {x : Nat} {m : jmM} {Q : Option Value → jmM → Prop} : AW d 49 60 [l0, some (.ref x), l2] [v0] m Q ↔ AW d 49 61 [l0, some (.ref x), l2] [.ref x, v0] m Q := A_aload_n hB_X5_becomeLike dX5_becomeLike_60 rfl
theorem dX5_becomeLike_61 : decode cX5_becomeLike 61 = .ok (.getfield 39, 3) := by decide +kernel
theorem tX5_becomeLike_61 {d : Nat} {l0 l1 l2 : Option Value} {v1 : Value} {a : Nat} {m : jmM} {Q : Option Value → jmM → Prop} : AW d 49 61 [l0, l1, l2] [.ref a, v1] m Q ↔ (mS m a).1 = 5 ∧ AW d 49 64 [l0, l1, l2] [.int (mI m a 7), v1] m Q := A_getfield (f := fun m a => .int (mI m a 7)) hB_X5_becomeLike dX5_becomeLike_61 hO_X5_becomeLike fF_5_39 rfl
theorem dX5_becomeLike_64 : decode cX5_becomeLike 64 = .ok (.putfield 39, 3) := by decide +kernel
theorem tX5_becomeLike_64 {d : Nat} {l0 l1 l2 : Option Value} {x : Int32} {a : Nat} {m : jmM} {Q : Option Value → jmM → Prop} : AW d 49 64 [l0, l1, l2] [.int x, .ref a] m Q ↔ (mS m a).1 = 5 ∧ AW d 49 67 [l0, l1, l2] [] (cI m a (jup (mI m a) 7 x)) Q := A_putI hB_X5_becomeLike dX5_becomeLike_64 hO_X5_becomeLike fF_5_39 rfl (fun h => Bool.noConfusion h)
theorem dX5_becomeLike_67 : decode cX5_becomeLike 67 = .ok (.aload_n 0, 1) := by decide +kernel
theorem tX5_becomeLike_67 {d : Nat} {l1 l2 : Option Value} {x : Nat} {m : jmM} {Q : Option Value → jmM → Prop} : AW d 49 67 [some (.ref x), l1, l2] [] m Q ↔ AW d 49 68 [some (.ref x), l1, l2] [.ref x] m Q := A_aload_n hB_X5_becomeLike dX5_becomeLike_67 rfl
theorem dX5_becomeLike_68 : decode cX5_becomeLike 68 = .ok (.aload_n 1, 1) := by decide +kernel
theorem tX5_becomeLike_68 {d : Nat} {l0 l2 : Option Value} {v0 : Value} {x : Nat} {m : jmM} {Q : Option Value → jmM → Prop} : AW d 49 68 [l0, some (.ref x), l2] [v0] m Q ↔ AW d 49 69 [l0, some (.ref x), l2] [.ref x, v0] m Q := A_aload_n hB_X5_becomeLike dX5_becomeLike_68 rfl
theorem dX5_becomeLike_69 : decode cX5_becomeLike 69 = .ok (.getfield 42, 3) := by decide +kernel
theorem tX5_becomeLike_69 {d : Nat} {l0 l1 l2 : Option Value} {v1 : Value} {a : Nat} {m : jmM} {Q : Option Value → jmM → Prop} : AW d 49 69 [l0, l1, l2] [.ref a, v1] m Q ↔ (mS m a).1 = 5 ∧ AW d 49 72 [l0, l1, l2] [.int (mI m a 8), v1] m Q := A_getfield (f := fun m a => .int (mI m a 8)) hB_X5_becomeLike dX5_becomeLike_69 hO_X5_becomeLike fF_5_42 rfl
theorem dX5_becomeLike_72 : decode cX5_becomeLike 72 = .ok (.putfield 42, 3) := by decide +kernel
theorem tX5_becomeLike_72 {d : Nat} {l0 l1 l2 : Option Value} {x : Int32} {a : Nat} {m : jmM} {Q : Option Value → jmM → Prop} : AW d 49 72 [l0, l1, l2] [.int x, .ref a] m Q ↔ (mS m a).1 = 5 ∧ AW d 49 75 [l0, l1, l2] [] (cI m a (jup (mI m a) 8 x)) Q := A_putI hB_X5_becomeLike dX5_becomeLike_72 hO_X5_becomeLike fF_5_42 rfl (fun h => Bool.noConfusion h)
theorem dX5_becomeLike_75 : decode cX5_becomeLike 75 = .ok (.aload_n 0, 1) := by decide +kernel
theorem tX5_becomeLike_75 {d : Nat} {l1 l2 : Option Value} {x : Nat} {m : jmM} {Q : Option Value → jmM → Prop} : AW d 49 75 [some (.ref x), l1, l2] [] m Q ↔ AW d 49 76 [some (.ref x), l1, l2] [.ref x] m Q := A_aload_n hB_X5_becomeLike dX5_becomeLike_75 rfl
theorem dX5_becomeLike_76 : decode cX5_becomeLike 76 = .ok (.aload_n 1, 1) := by decide +kernel
theorem tX5_becomeLike_76 {d : Nat} {l0 l2 : Option Value} {v0 : Value} {x : Nat} {m : jmM} {Q : Option Value → jmM → Prop} : AW d 49 76 [l0, some (.ref x), l2] [v0] m Q ↔ AW d 49 77 [l0, some (.ref x), l2] [.ref x, v0] m Q := A_aload_n hB_X5_becomeLike dX5_becomeLike_76 rfl
theorem dX5_becomeLike_77 : decode cX5_becomeLike 77 = .ok (.getfield 45, 3) := by decide +kernel
theorem tX5_becomeLike_77 {d : Nat} {l0 l1 l2 : Option Value} {v1 : Value} {a : Nat} {m : jmM} {Q : Option Value → jmM → Prop} : AW d 49 77 [l0, l1, l2] [.ref a, v1] m Q ↔ (mS m a).1 = 5 ∧ AW d 49 80 [l0, l1, l2] [.int (mI m a 9), v1] m Q := A_getfield (f := fun m a => .int (mI m a 9)) hB_X5_becomeLike dX5_becomeLike_77 hO_X5_becomeLike fF_5_45 rfl
theorem dX5_becomeLike_80 : decode cX5_becomeLike 80 = .ok (.putfield 45, 3) := by decide +kernel
theorem tX5_becomeLike_80 {d : Nat} {l0 l1 l2 : Option Value} {x : Int32} {a : Nat} {m : jmM} {Q : Option Value → jmM → Prop} : AW d 49 80 [l0, l1, l2] [.int x, .ref a] m Q ↔ (mS m a).1 = 5 ∧ AW d 49 83 [l0, l1, l2] [] (cI m a (jup (mI m a) 9 x)) Q := A_putI hB_X5_becomeLike dX5_becomeLike_80 hO_X5_becomeLike fF_5_45 rfl (fun h => Bool.noConfusion h)
theorem dX5_becomeLike_83 : decode cX5_becomeLike 83 = .ok (.aload_n 0, 1) := by decide +kernel
theorem tX5_becomeLike_83 {d : Nat} {l1 l2 : Option Value} {x : Nat} {m : jmM} {Q : Option Value → jmM → Prop} : AW d 49 83 [some (.ref x), l1, l2] [] m Q ↔ AW d 49 84 [some (.ref x), l1, l2] [.ref x] m Q := A_aload_n hB_X5_becomeLike dX5_becomeLike_83 rfl
theorem dX5_becomeLike_84 : decode cX5_becomeLike 84 = .ok (.aload_n 1, 1) := by decide +kernel
theorem tX5_becomeLike_84 {d : Nat} {l0 l2 : Option Value} {v0 : Value} {x : Nat} {m : jmM} {Q : Option Value → jmM → Prop} : AW d 49 84 [l0, some (.ref x), l2] [v0] m Q ↔ AW d 49 85 [l0, some (.ref x), l2] [.ref x, v0] m Q := A_aload_n hB_X5_becomeLike dX5_becomeLike_84 rfl
theorem dX5_becomeLike_85 : decode cX5_becomeLike 85 = .ok (.getfield 48, 3) := by decide +kernel
theorem tX5_becomeLike_85 {d : Nat} {l0 l1 l2 : Option Value} {v1 : Value} {a : Nat} {m : jmM} {Q : Option Value → jmM → Prop} : AW d 49 85 [l0, l1, l2] [.ref a, v1] m Q ↔ (mS m a).1 = 5 ∧ AW d 49 88 [l0, l1, l2] [.int (mI m a 10), v1] m Q := A_getfield (f := fun m a => .int (mI m a 10)) hB_X5_becomeLike dX5_becomeLike_85 hO_X5_becomeLike fF_5_48 rfl
theorem dX5_becomeLike_88 : decode cX5_becomeLike 88 = .ok (.putfield 48, 3) := by decide +kernel
theorem tX5_becomeLike_88 {d : Nat} {l0 l1 l2 : Option Value} {x : Int32} {a : Nat} {m : jmM} {Q : Option Value → jmM → Prop} : AW d 49 88 [l0, l1, l2] [.int x, .ref a] m Q ↔ (mS m a).1 = 5 ∧ AW d 49 91 [l0, l1, l2] [] (cI m a (jup (mI m a) 10 x)) Q := A_putI hB_X5_becomeLike dX5_becomeLike_88 hO_X5_becomeLike fF_5_48 rfl (fun h => Bool.noConfusion h)
theorem dX5_becomeLike_91 : decode cX5_becomeLike 91 = .ok (.aload_n 0, 1) := by decide +kernel
theorem tX5_becomeLike_91 {d : Nat} {l1 l2 : Option Value} {x : Nat} {m : jmM} {Q : Option Value → jmM → Prop} : AW d 49 91 [some (.ref x), l1, l2] [] m Q ↔ AW d 49 92 [some (.ref x), l1, l2] [.ref x] m Q := A_aload_n hB_X5_becomeLike dX5_becomeLike_91 rfl
theorem dX5_becomeLike_92 : decode cX5_becomeLike 92 = .ok (.aload_n 1, 1) := by decide +kernel
theorem tX5_becomeLike_92 {d : Nat} {l0 l2 : Option Value} {v0 : Value} {x : Nat} {m : jmM} {Q : Option Value → jmM → Prop} : AW d 49 92 [l0, some (.ref x), l2] [v0] m Q ↔ AW d 49 93 [l0, some (.ref x), l2] [.ref x, v0] m Q := A_aload_n hB_X5_becomeLike dX5_becomeLike_92 rfl
theorem dX5_becomeLike_93 : decode cX5_becomeLike 93 = .ok (.getfield 51, 3) := by decide +kernel
theorem tX5_becomeLike_93 {d : Nat} {l0 l1 l2 : Option Value} {v1 : Value} {a : Nat} {m : jmM} {Q : Option Value → jmM → Prop} : AW d 49 93 [l0, l1, l2] [.ref a, v1] m Q ↔ (mS m a).1 = 5 ∧ AW d 49 96 [l0, l1, l2] [.int (mI m a 11), v1] m Q := A_getfield (f := fun m a => .int (mI m a 11)) hB_X5_becomeLike dX5_becomeLike_93 hO_X5_becomeLike fF_5_51 rfl
theorem dX5_becomeLike_96 : decode cX5_becomeLike 96 = .ok (.sipush 600, 3) := by decide +kernel
theorem tX5_becomeLike_96 {d : Nat} {l0 l1 l2 : Option Value} {v0 v1 : Value} {m : jmM} {Q : Option Value → jmM → Prop} : AW d 49 96 [l0, l1, l2] [v0, v1] m Q ↔ AW d 49 99 [l0, l1, l2] [.int 600, v0, v1] m Q := A_sipush hB_X5_becomeLike dX5_becomeLike_96 rfl
theorem dX5_becomeLike_99 : decode cX5_becomeLike 99 = .ok (.invokestatic 94, 3) := by decide +kernel
theorem tX5_becomeLike_99 {d : Nat} {l0 l1 l2 : Option Value} {v2 : Value} {x y : Int32} {m : jmM} {Q : Option Value → jmM → Prop} : AW d 49 99 [l0, l1, l2] [.int y, .int x, v2] m Q ↔ AW d 49 102 [l0, l1, l2] [.int (if y < x then y else x), v2] m Q := A_min hB_X5_becomeLike dX5_becomeLike_99 hO_X5_becomeLike fS_5_94 (Nat.le_of_ble_eq_true rfl)
theorem dX5_becomeLike_102 : decode cX5_becomeLike 102 = .ok (.putfield 51, 3) := by decide +kernel
theorem tX5_becomeLike_102 {d : Nat} {l0 l1 l2 : Option Value} {x : Int32} {a : Nat} {m : jmM} {Q : Option Value → jmM → Prop} : AW d 49 102 [l0, l1, l2] [.int x, .ref a] m Q ↔ (mS m a).1 = 5 ∧ AW d 49 105 [l0, l1, l2] [] (cI m a (jup (mI m a) 11 x)) Q := A_putI hB_X5_becomeLike dX5_becomeLike_102 hO_X5_becomeLike fF_5_51 rfl (fun h => Bool.noConfusion h)
theorem dX5_becomeLike_105 : decode cX5_becomeLike 105 = .ok (.aload_n 1, 1) := by decide +kernel
theorem tX5_becomeLike_105 {d : Nat} {l0 l2 : Option Value} {x : Nat} {m : jmM} {Q : Option Value → jmM → Prop} : AW d 49 105 [l0, some (.ref x), l2] [] m Q ↔ AW d 49 106 [l0, some (.ref x), l2] [.ref x] m Q := A_aload_n hB_X5_becomeLike dX5_becomeLike_105 rfl
theorem dX5_becomeLike_106 : decode cX5_becomeLike 106 = .ok (.getfield 54, 3) := by decide +kernel
theorem tX5_becomeLike_106 {d : Nat} {l0 l1 l2 : Option Value} {a : Nat} {m : jmM} {Q : Option Value → jmM → Prop} : AW d 49 106 [l0, l1, l2] [.ref a] m Q ↔ (mS m a).1 = 5 ∧ AW d 49 109 [l0, l1, l2] [va_rf (mR m a 12)] m Q := A_getfield (f := fun m a => va_rf (mR m a 12)) hB_X5_becomeLike dX5_becomeLike_106 hO_X5_becomeLike fF_5_54 rfl
theorem dX5_becomeLike_109 : decode cX5_becomeLike 109 = .ok (.iconst 0, 1) := by decide +kernel
theorem tX5_becomeLike_109 {d : Nat} {l0 l1 l2 : Option Value} {v0 : Value} {m : jmM} {Q : Option Value → jmM → Prop} : AW d 49 109 [l0, l1, l2] [v0] m Q ↔ AW d 49 110 [l0, l1, l2] [.int 0, v0] m Q := A_iconst hB_X5_becomeLike dX5_becomeLike_109 (by decide)
theorem dX5_becomeLike_110 : decode cX5_becomeLike 110 = .ok (.aload_n 0, 1) := by decide +kernel
theorem tX5_becomeLike_110 {d : Nat} {l1 l2 : Option Value} {v0 v1 : Value} {x : Nat} {m : jmM} {Q : Option Value → jmM → Prop} : AW d 49 110 [some (.ref x), l1, l2] [v0, v1] m Q ↔ AW d 49 111 [some (.ref x), l1, l2] [.ref x, v0, v1] m Q := A_aload_n hB_X5_becomeLike dX5_becomeLike_110 rfl
theorem dX5_becomeLike_111 : decode cX5_becomeLike 111 = .ok (.getfield 54, 3) := by decide +kernel
theorem tX5_becomeLike_111 {d : Nat} {l0 l1 l2 : Option Value} {v1 v2 : Value} {a : Nat} {m : jmM} {Q : Option Value → jmM → Prop} : AW d 49 111 [l0, l1, l2] [.ref a, v1, v2] m Q ↔ (mS m a).1 = 5 ∧ AW d 49 114 [l0, l1, l2] [va_rf (mR m a 12), v1, v2] m Q := A_getfield (f := fun m a => va_rf (mR m a 12)) hB_X5_becomeLike dX5_becomeLike_111 hO_X5_becomeLike fF_5_54 rfl
theorem dX5_becomeLike_114 : decode cX5_becomeLike 114 = .ok (.iconst 0, 1) := by decide +kernel
theorem tX5_becomeLike_114 {d : Nat} {l0 l1 l2 : Option Value} {v0 v1 v2 : Value} {m : jmM} {Q : Option Value → jmM → Prop} : AW d 49 114 [l0, l1, l2] [v0, v1, v2] m Q ↔ AW d 49 115 [l0, l1, l2] [.int 0, v0, v1, v2] m Q := A_iconst hB_X5_becomeLike dX5_becomeLike_114 (by decide)
theorem dX5_becomeLike_115 : decode cX5_becomeLike 115 = .ok (.aload_n 0, 1) := by decide +kernel
theorem tX5_becomeLike_115 {d : Nat} {l1 l2 : Option Value} {v0 v1 v2 v3 : Value} {x : Nat} {m : jmM} {Q : Option Value → jmM → Prop} : AW d 49 115 [some (.ref x), l1, l2] [v0, v1, v2, v3] m Q ↔ AW d 49 116 [some (.ref x), l1, l2] [.ref x, v0, v1, v2, v3] m Q := A_aload_n hB_X5_becomeLike dX5_becomeLike_115 rfl
theorem dX5_becomeLike_116 : decode cX5_becomeLike 116 = .ok (.getfield 51, 3) := by decide +kernel
theorem tX5_becomeLike_116 {d : Nat} {l0 l1 l2 : Option Value} {v1 v2 v3 v4 : Value} {a : Nat} {m : jmM} {Q : Option Value → jmM → Prop} : AW d 49 116 [l0, l1, l2] [.ref a, v1, v2, v3, v4] m Q ↔ (mS m a).1 = 5 ∧ AW d 49 119 [l0, l1, l2] [.int (mI m a 11), v1, v2, v3, v4] m Q := A_getfield (f := fun m a => .int (mI m a 11)) hB_X5_becomeLike dX5_becomeLike_116 hO_X5_becomeLike fF_5_51 rfl
theorem dX5_becomeLike_119 : decode cX5_becomeLike 119 = .ok (.invokestatic 100, 3) := by decide +kernel
theorem tX5_becomeLike_119 {d : Nat} {l0 l1 l2 : Option Value} {n x y : Int32} {a b : Nat} {m : jmM} {Q : Option Value → jmM → Prop} : AW d 49 119 [l0, l1, l2] [.int n, .int y, .ref b, .int x, .ref a] m Q ↔ (0 ≤ n.toInt ∧ 0 ≤ y.toInt ∧ 0 ≤ x.toInt ∧ x.toInt + n.toInt ≤ ((mS m a).2 : Int) ∧ y.toInt + n.toInt ≤ ((mS m b).2 : Int) ∧ (mS m a).1 = (mS m b).1 ∧ ((mS m b).1 = 20 ∨ (mS m b).1 = 21)) ∧ AW d 49 122 [l0, l1, l2] [] (if (mS m b).1 = 20 then cI m b (va_cpy (mI m a) (mI m b) (jx x) (jx y) (jx n)) else cL m b (va_cpy (mL m a) (mL m b) (jx x) (jx y) (jx n))) Q := A_copy hB_X5_becomeLike dX5_becomeLike_119 hO_X5_becomeLike fS_5_100 (Nat.le_of_ble_eq_true rfl)
theorem dX5_becomeLike_122 : decode cX5_becomeLike 122 = .ok (.aload_n 1, 1) := by decide +kernel
theorem tX5_becomeLike_122 {d : Nat} {l0 l2 : Option Value} {x : Nat} {m : jmM} {Q : Option Value → jmM → Prop} : AW d 49 122 [l0, some (.ref x), l2] [] m Q ↔ AW d 49 123 [l0, some (.ref x), l2] [.ref x] m Q := A_aload_n hB_X5_becomeLike dX5_becomeLike_122 rfl
theorem dX5_becomeLike_123 : decode cX5_becomeLike 123 = .ok (.getfield 58, 3) := by decide +kernel
theorem tX5_becomeLike_123 {d : Nat} {l0 l1 l2 : Option Value} {a : Nat} {m : jmM} {Q : Option Value → jmM → Prop} : AW d 49 123 [l0, l1, l2] [.ref a] m Q ↔ (mS m a).1 = 5 ∧ AW d 49 126 [l0, l1, l2] [va_rf (mR m a 13)] m Q := A_getfield (f := fun m a => va_rf (mR m a 13)) hB_X5_becomeLike dX5_becomeLike_123 hO_X5_becomeLike fF_5_58 rfl
theorem dX5_becomeLike_126 : decode cX5_becomeLike 126 = .ok (.iconst 0, 1) := by decide +kernel
theorem tX5_becomeLike_126 {d : Nat} {l0 l1 l2 : Option Value} {v0 : Value} {m : jmM} {Q : Option Value → jmM → Prop} : AW d 49 126 [l0, l1, l2] [v0] m Q ↔ AW d 49 127 [l0, l1, l2] [.int 0, v0] m Q := A_iconst hB_X5_becomeLike dX5_becomeLike_126 (by decide)
theorem dX5_becomeLike_127 : decode cX5_becomeLike 127 = .ok (.aload_n 0, 1) := by decide +kernel
theorem tX5_becomeLike_127 {d : Nat} {l1 l2 : Option Value} {v0 v1 : Value} {x : Nat} {m : jmM} {Q : Option Value → jmM → Prop} : AW d 49 127 [some (.ref x), l1, l2] [v0, v1] m Q ↔ AW d 49 128 [some (.ref x), l1, l2] [.ref x, v0, v1] m Q := A_aload_n hB_X5_becomeLike dX5_becomeLike_127 rfl
theorem dX5_becomeLike_128 : decode cX5_becomeLike 128 = .ok (.getfield 58, 3) := by decide +kernel
theorem tX5_becomeLike_128 {d : Nat} {l0 l1 l2 : Option Value} {v1 v2 : Value} {a : Nat} {m : jmM} {Q : Option Value → jmM → Prop} : AW d 49 128 [l0, l1, l2] [.ref a, v1, v2] m Q ↔ (mS m a).1 = 5 ∧ AW d 49 131 [l0, l1, l2] [va_rf (mR m a 13), v1, v2] m Q := A_getfield (f := fun m a => va_rf (mR m a 13)) hB_X5_becomeLike dX5_becomeLike_128 hO_X5_becomeLike fF_5_58 rfl
theorem dX5_becomeLike_131 : decode cX5_becomeLike 131 = .ok (.iconst 0, 1) := by decide +kernel
theorem tX5_becomeLike_131 {d : Nat} {l0 l1 l2 : Option Value} {v0 v1 v2 : Value} {m : jmM} {Q : Option Value → jmM → Prop} : AW d 49 131 [l0, l1, l2] [v0, v1, v2] m Q ↔ AW d 49 132 [l0, l1, l2] [.int 0, v0, v1, v2] m Q := A_iconst hB_X5_becomeLike dX5_becomeLike_131 (by decide)
theorem dX5_becomeLike_132 : decode cX5_becomeLike 132 = .ok (.aload_n 0, 1) := by decide +kernel
theorem tX5_becomeLike_132 {d : Nat} {l1 l2 : Option Value} {v0 v1 v2 v3 : Value} {x : Nat} {m : jmM} {Q : Option Value → jmM → Prop} : AW d 49 132 [some (.ref x), l1, l2] [v0, v1, v2, v3] m Q ↔ AW d 49 133 [some (.ref x), l1, l2] [.ref x, v0, v1, v2, v3] m Q := A_aload_n hB_X5_becomeLike dX5_becomeLike_132 rfl
theorem dX5_becomeLike_133 : decode cX5_becomeLike 133 = .ok (.getfield 51, 3) := by decide +kernel
theorem tX5_becomeLike_133 {d : Nat} {l0 l1 l2 : Option Value} {v1 v2 v3 v4 : Value} {a : Nat} {m : jmM} {Q : Option Value → jmM → Prop} : AW d 49 133 [l0, l1, l2] [.ref a, v1, v2, v3, v4] m Q ↔ (mS m a).1 = 5 ∧ AW d 49 136 [l0, l1, l2] [.int (mI m a 11), v1, v2, v3, v4] m Q := A_getfield (f := fun m a => .int (mI m a 11)) hB_X5_becomeLike dX5_becomeLike_133 hO_X5_becomeLike fF_5_51 rfl
theorem dX5_becomeLike_136 : decode cX5_becomeLike 136 = .ok (.invokestatic 100, 3) := by decide +kernel
theorem tX5_becomeLike_136 {d : Nat} {l0 l1 l2 : Option Value} {n x y : Int32} {a b : Nat} {m : jmM} {Q : Option Value → jmM → Prop} : AW d 49 136 [l0, l1, l2] [.int n, .int y, .ref b, .int x, .ref a] m Q ↔ (0 ≤ n.toInt ∧ 0 ≤ y.toInt ∧ 0 ≤ x.toInt ∧ x.toInt + n.toInt ≤ ((mS m a).2 : Int) ∧ y.toInt + n.toInt ≤ ((mS m b).2 : Int) ∧ (mS m a).1 = (mS m b).1 ∧ ((mS m b).1 = 20 ∨ (mS m b).1 = 21)) ∧ AW d 49 139 [l0, l1, l2] [] (if (mS m b).1 = 20 then cI m b (va_cpy (mI m a) (mI m b) (jx x) (jx y) (jx n)) else cL m b (va_cpy (mL m a) (mL m b) (jx x) (jx y) (jx n))) Q := A_copy hB_X5_becomeLike dX5_becomeLike_136 hO_X5_becomeLike fS_5_100 (Nat.le_of_ble_eq_true rfl)
theorem dX5_becomeLike_139 : decode cX5_becomeLike 139 = .ok (.aload_n 1, 1) := by decide +kernel
theorem tX5_becomeLike_139 {d : Nat} {l0 l2 : Option Value} {x : Nat} {m : jmM} {Q : Option Value → jmM → Prop} : AW d 49 139 [l0, some (.ref x), l2] [] m Q ↔ AW d 49 140 [l0, some (.ref x), l2] [.ref x] m Q := A_aload_n hB_X5_becomeLike dX5_becomeLike_139 rfl
theorem dX5_becomeLike_140 : decode cX5_becomeLike 140 = .ok (.getfield 61, 3) := by decide +kernel
theorem tX5_becomeLike_140 {d : Nat} {l0 l1 l2 : Option Value} {a : Nat} {m : jmM} {Q : Option Value → jmM → Prop} : AW d 49 140 [l0, l1, l2] [.ref a] m Q ↔ (mS m a).1 = 5 ∧ AW d 49 143 [l0, l1, l2] [va_rf (mR m a 14)] m Q := A_getfield (f := fun m a => va_rf (mR m a 14)) hB_X5_becomeLike dX5_becomeLike_140 hO_X5_becomeLike fF_5_61 rfl
theorem dX5_becomeLike_143 : decode cX5_becomeLike 143 = .ok (.iconst 0, 1) := by decide +kernel
theorem tX5_becomeLike_143 {d : Nat} {l0 l1 l2 : Option Value} {v0 : Value} {m : jmM} {Q : Option Value → jmM → Prop} : AW d 49 143 [l0, l1, l2] [v0] m Q ↔ AW d 49 144 [l0, l1, l2] [.int 0, v0] m Q := A_iconst hB_X5_becomeLike dX5_becomeLike_143 (by decide)
theorem dX5_becomeLike_144 : decode cX5_becomeLike 144 = .ok (.aload_n 0, 1) := by decide +kernel
theorem tX5_becomeLike_144 {d : Nat} {l1 l2 : Option Value} {v0 v1 : Value} {x : Nat} {m : jmM} {Q : Option Value → jmM → Prop} : AW d 49 144 [some (.ref x), l1, l2] [v0, v1] m Q ↔ AW d 49 145 [some (.ref x), l1, l2] [.ref x, v0, v1] m Q := A_aload_n hB_X5_becomeLike dX5_becomeLike_144 rfl
theorem dX5_becomeLike_145 : decode cX5_becomeLike 145 = .ok (.getfield 61, 3) := by decide +kernel
theorem tX5_becomeLike_145 {d : Nat} {l0 l1 l2 : Option Value} {v1 v2 : Value} {a : Nat} {m : jmM} {Q : Option Value → jmM → Prop} : AW d 49 145 [l0, l1, l2] [.ref a, v1, v2] m Q ↔ (mS m a).1 = 5 ∧ AW d 49 148 [l0, l1, l2] [va_rf (mR m a 14), v1, v2] m Q := A_getfield (f := fun m a => va_rf (mR m a 14)) hB_X5_becomeLike dX5_becomeLike_145 hO_X5_becomeLike fF_5_61 rfl
theorem dX5_becomeLike_148 : decode cX5_becomeLike 148 = .ok (.iconst 0, 1) := by decide +kernel
theorem tX5_becomeLike_148 {d : Nat} {l0 l1 l2 : Option Value} {v0 v1 v2 : Value} {m : jmM} {Q : Option Value → jmM → Prop} : AW d 49 148 [l0, l1, l2] [v0, v1, v2] m Q ↔ AW d 49 149 [l0, l1, l2] [.int 0, v0, v1, v2] m Q := A_iconst hB_X5_becomeLike dX5_becomeLike_148 (by decide)
theorem dX5_becomeLike_149 : decode cX5_becomeLike 149 = .ok (.aload_n 0, 1) := by decide +kernel
theorem tX5_becomeLike_149 {d : Nat} {l1 l2 : Option Value} {v0 v1 v2 v3 : Value} {x : Nat} {m : jmM} {Q : Option Value → jmM → Prop} : AW d 49 149 [some (.ref x), l1, l2] [v0, v1, v2, v3] m Q ↔ AW d 49 150 [some (.ref x), l1, l2] [.ref x, v0, v1, v2, v3] m Q := A_aload_n hB_X5_becomeLike dX5_becomeLike_149 rfl
theorem dX5_becomeLike_150 : decode cX5_becomeLike 150 = .ok (.getfield 51, 3) := by decide +kernel
theorem tX5_becomeLike_150 {d : Nat} {l0 l1 l2 : Option Value} {v1 v2 v3 v4 : Value} {a : Nat} {m : jmM} {Q : Option Value → jmM → Prop} : AW d 49 150 [l0, l1, l2] [.ref a, v1, v2, v3, v4] m Q ↔ (mS m a).1 = 5 ∧ AW d 49 153 [l0, l1, l2] [.int (mI m a 11), v1, v2, v3, v4] m Q := A_getfield (f := fun m a => .int (mI m a 11)) hB_X5_becomeLike dX5_becomeLike_150 hO_X5_becomeLike fF_5_51 rfl
theorem dX5_becomeLike_153 : decode cX5_becomeLike 153 = .ok (.invokestatic 100, 3) := by decide +kernel
theorem tX5_becomeLike_153 {d : Nat} {l0 l1 l2 : Option Value} {n x y : Int32} {a b : Nat} {m : jmM} {Q : Option Value → jmM → Prop} : AW d 49 153 [l0, l1, l2] [.int n, .int y, .ref b, .int x, .ref a] m Q ↔ (0 ≤ n.toInt ∧ 0 ≤ y.toInt ∧ 0 ≤ x.toInt ∧ x.toInt + n.toInt ≤ ((mS m a).2 : Int) ∧ y.toInt + n.toInt ≤ ((mS m b).2 : Int) ∧ (mS m a).1 = (mS m b).1 ∧ ((mS m b).1 = 20 ∨ (mS m b).1 = 21)) ∧ AW d 49 156 [l0, l1, l2] [] (if (mS m b).1 = 20 then cI m b (va_cpy (mI m a) (mI m b) (jx x) (jx y) (jx n)) else cL m b (va_cpy (mL m a) (mL m b) (jx x) (jx y) (jx n))) Q := A_copy hB_X5_becomeLike dX5_becomeLike_153 hO_X5_becomeLike fS_5_100 (Nat.le_of_ble_eq_true rfl)
theorem dX5_becomeLike_156 : decode cX5_becomeLike 156 = .ok (.aload_n 1, 1) := by decide +kernel
theorem tX5_becomeLike_156 {d : Nat} {l0 l2 : Option Value} {x : Nat} {m : jmM} {Q : Option Value → jmM → Prop} : AW d 49 156 [l0, some (.ref x), l2] [] m Q ↔ AW d 49 157 [l0, some (.ref x), l2] [.ref x] m Q := A_aload_n hB_X5_becomeLike dX5_becomeLike_156 rfl
theorem dX5_becomeLike_157 : decode cX5_becomeLike 157 = .ok (.getfield 64, 3) := by decide +kernel
theorem tX5_becomeLike_157 {d : Nat} {l0 l1 l2 : Option Value} {a : Nat} {m : jmM} {Q : Option Value → jmM → Prop} : AW d 49 157 [l0, l1, l2] [.ref a] m Q ↔ (mS m a).1 = 5 ∧ AW d 49 160 [l0, l1, l2] [va_rf (mR m a 15)] m Q := A_getfield (f := fun m a => va_rf (mR m a 15)) hB_X5_becomeLike dX5_becomeLike_157 hO_X5_becomeLike fF_5_64 rfl
theorem dX5_becomeLike_160 : decode cX5_becomeLike 160 = .ok (.iconst 0, 1) := by decide +kernel
theorem tX5_becomeLike_160 {d : Nat} {l0 l1 l2 : Option Value} {v0 : Value} {m : jmM} {Q : Option Value → jmM → Prop} : AW d 49 160 [l0, l1, l2] [v0] m Q ↔ AW d 49 161 [l0, l1, l2] [.int 0, v0] m Q := A_iconst hB_X5_becomeLike dX5_becomeLike_160 (by decide)
theorem dX5_becomeLike_161 : decode cX5_becomeLike 161 = .ok (.aload_n 0, 1) := by decide +kernel
theorem tX5_becomeLike_161 {d : Nat} {l1 l2 : Option Value} {v0 v1 : Value} {x : Nat} {m : jmM} {Q : Option Value → jmM → Prop} : AW d 49 161 [some (.ref x), l1, l2] [v0, v1] m Q ↔ AW d 49 162 [some (.ref x), l1, l2] [.ref x, v0, v1] m Q := A_aload_n hB_X5_becomeLike dX5_becomeLike_161 rfl
theorem dX5_becomeLike_162 : decode cX5_becomeLike 162 = .ok (.getfield 64, 3) := by decide +kernel
theorem tX5_becomeLike_162 {d : Nat} {l0 l1 l2 : Option Value} {v1 v2 : Value} {a : Nat} {m : jmM} {Q : Option Value → jmM → Prop} : AW d 49 162 [l0, l1, l2] [.ref a, v1, v2] m Q ↔ (mS m a).1 = 5 ∧ AW d 49 165 [l0, l1, l2] [va_rf (mR m a 15), v1, v2] m Q := A_getfield (f := fun m a => va_rf (mR m a 15)) hB_X5_becomeLike dX5_becomeLike_162 hO_X5_becomeLike fF_5_64 rfl
theorem dX5_becomeLike_165 : decode cX5_becomeLike 165 = .ok (.iconst 0, 1) := by decide +kernel
theorem tX5_becomeLike_165 {d : Nat} {l0 l1 l2 : Option Value} {v0 v1 v2 : Value} {m : jmM} {Q : Option Value → jmM → Prop} : AW d 49 165 [l0, l1, l2] [v0, v1, v2] m Q ↔ AW d 49 166 [l0, l1, l2] [.int 0, v0, v1, v2] m Q := A_iconst hB_X5_becomeLike dX5_becomeLike_165 (by decide)
theorem dX5_becomeLike_166 : decode cX5_becomeLike 166 = .ok (.aload_n 0, 1) := by decide +kernel
theorem tX5_becomeLike_166 {d : Nat} {l1 l2 : Option Value} {v0 v1 v2 v3 : Value} {x : Nat} {m : jmM} {Q : Option Value → jmM → Prop} : AW d 49 166 [some (.ref x), l1, l2] [v0, v1, v2, v3] m Q ↔ AW d 49 167 [some (.ref x), l1, l2] [.ref x, v0, v1, v2, v3] m Q := A_aload_n hB_X5_becomeLike dX5_becomeLike_166 rfl
theorem dX5_becomeLike_167 : decode cX5_becomeLike 167 = .ok (.getfield 51, 3) := by decide +kernel
theorem tX5_becomeLike_167 {d : Nat} {l0 l1 l2 : Option Value} {v1 v2 v3 v4 : Value} {a : Nat} {m : jmM} {Q : Option Value → jmM → Prop} : AW d 49 167 [l0, l1, l2] [.ref a, v1, v2, v3, v4] m Q ↔ (mS m a).1 = 5 ∧ AW d 49 170 [l0, l1, l2] [.int (mI m a 11), v1, v2, v3, v4] m Q := A_getfield (f := fun m a => .int (mI m a 11)) hB_X5_becomeLike dX5_becomeLike_167 hO_X5_becomeLike fF_5_51 rfl
theorem dX5_becomeLike_170 : decode cX5_becomeLike 170 = .ok (.invokestatic 100, 3) := by decide +kernel
theorem tX5_becomeLike_170 {d : Nat} {l0 l1 l2 : Option Value} {n x y : Int32} {a b : Nat} {m : jmM} {Q : Option Value → jmM → Prop} : AW d 49 170 [l0, l1, l2] [.int n, .int y, .ref b, .int x, .ref a] m Q ↔ (0 ≤ n.toInt ∧ 0 ≤ y.toInt ∧ 0 ≤ x.toInt ∧ x.toInt + n.toInt ≤ ((mS m a).2 : Int) ∧ y.toInt + n.toInt ≤ ((mS m b).2 : Int) ∧ (mS m a).1 = (mS m b).1 ∧ ((mS m b).1 = 20 ∨ (mS m b).1 = 21)) ∧ AW d 49 173 [l0, l1, l2] [] (if (mS m b).1 = 20 then cI m b (va_cpy (mI m a) (mI m b) (jx x) (jx y) (jx n)) else cL m b (va_cpy (mL m a) (mL m b) (jx x) (jx y) (jx n))) Q := A_copy hB_X5_becomeLike dX5_becomeLike_170 hO_X5_becomeLike fS_5_100 (Nat.le_of_ble_eq_true rfl)
theorem dX5_becomeLike_173 : decode cX5_becomeLike 173 = .ok (.aload_n 1, 1) := by decide +kernel
theorem tX5_becomeLike_173 {d : Nat} {l0 l2 : Option Value} {x : Nat} {m : jmM} {Q : Option Value → jmM → Prop} : AW d 49 173 [l0, some (.ref x), l2] [] m Q ↔ AW d 49 174 [l0, some (.ref x), l2] [.ref x] m Q := A_aload_n hB_X5_becomeLike dX5_becomeLike_173 rfl
theorem dX5_becomeLike_174 : decode cX5_becomeLike 174 = .ok (.getfield 71, 3) := by decide +kernel
theorem tX5_becomeLike_174 {d : Nat} {l0 l1 l2 : Option Value} {a : Nat} {m : jmM} {Q : Option Value → jmM → Prop} : AW d 49 174 [l0, l1, l2] [.ref a] m Q ↔ (mS m a).1 = 5 ∧ AW d 49 177 [l0, l1, l2] [va_rf (mR m a 17)] m Q := A_getfield (f := fun m a => va_rf (mR m a 17)) hB_X5_becomeLike dX5_becomeLike_174 hO_X5_becomeLike fF_5_71 rfl
theorem dX5_becomeLike_177 : decode cX5_becomeLike 177 = .ok (.iconst 0, 1) := by decide +kernel
theorem tX5_becomeLike_177 {d : Nat} {l0 l1 l2 : Option Value} {v0 : Value} {m : jmM} {Q : Option Value → jmM → Prop} : AW d 49 177 [l0, l1, l2] [v0] m Q ↔ AW d 49 178 [l0, l1, l2] [.int 0, v0] m Q := A_iconst hB_X5_becomeLike dX5_becomeLike_177 (by decide)
theorem dX5_becomeLike_178 : decode cX5_becomeLike 178 = .ok (.aload_n 0, 1) := by decide +kernel
theorem tX5_becomeLike_178 {d : Nat} {l1 l2 : Option Value} {v0 v1 : Value} {x : Nat} {m : jmM} {Q : Option Value → jmM → Prop} : AW d 49 178 [some (.ref x), l1, l2] [v0, v1] m Q ↔ AW d 49 179 [some (.ref x), l1, l2] [.ref x, v0, v1] m Q := A_aload_n hB_X5_becomeLike dX5_becomeLike_178 rfl
theorem dX5_becomeLike_179 : decode cX5_becomeLike 179 = .ok (.getfield 71, 3) := by decide +kernel
theorem tX5_becomeLike_179 {d : Nat} {l0 l1 l2 : Option Value} {v1 v2 : Value} {a : Nat} {m : jmM} {Q : Option Value → jmM → Prop} : AW d 49 179 [l0, l1, l2] [.ref a, v1, v2] m Q ↔ (mS m a).1 = 5 ∧ AW d 49 182 [l0, l1, l2] [va_rf (mR m a 17), v1, v2] m Q := A_getfield (f := fun m a => va_rf (mR m a 17)) hB_X5_becomeLike dX5_becomeLike_179 hO_X5_becomeLike fF_5_71 rfl
theorem dX5_becomeLike_182 : decode cX5_becomeLike 182 = .ok (.iconst 0, 1) := by decide +kernel
theorem tX5_becomeLike_182 {d : Nat} {l0 l1 l2 : Option Value} {v0 v1 v2 : Value} {m : jmM} {Q : Option Value → jmM → Prop} : AW d 49 182 [l0, l1, l2] [v0, v1, v2] m Q ↔ AW d 49 183 [l0, l1, l2] [.int 0, v0, v1, v2] m Q := A_iconst hB_X5_becomeLike dX5_becomeLike_182 (by decide)
theorem dX5_becomeLike_183 : decode cX5_becomeLike 183 = .ok (.aload_n 0, 1) := by decide +kernel
theorem tX5_becomeLike_183 {d : Nat} {l1 l2 : Option Value} {v0 v1 v2 v3 : Value} {x : Nat} {m : jmM} {Q : Option Value → jmM → Prop} : AW d 49 183 [some (.ref x), l1, l2] [v0, v1, v2, v3] m Q ↔ AW d 49 184 [some (.ref x), l1, l2] [.ref x, v0, v1, v2, v3] m Q := A_aload_n hB_X5_becomeLike dX5_becomeLike_183 rfl
theorem dX5_becomeLike_184 : decode cX5_becomeLike 184 = .ok (.getfield 51, 3) := by decide +kernel
theorem tX5_becomeLike_184 {d : Nat} {l0 l1 l2 : Option Value} {v1 v2 v3 v4 : Value} {a : Nat} {m : jmM} {Q : Option Value → jmM → Prop} : AW d 49 184 [l0, l1, l2] [.ref a, v1, v2, v3, v4] m Q ↔ (mS m a).1 = 5 ∧ AW d 49 187 [l0, l1, l2] [.int (mI m a 11), v1, v2, v3, v4] m Q := A_getfield (f := fun m a => .int (mI m a 11)) hB_X5_becomeLike dX5_becomeLike_184 hO_X5_becomeLike fF_5_51 rfl
theorem dX5_becomeLike_187 : decode cX5_becomeLike 187 = .ok (.bipush 6, 2) := by decide +kernel
theorem tX5_becomeLike_187 {d : Nat} {l0 l1 l2 : Option Value} {v0 v1 v2 v3 v4 : Value} {m : jmM} {Q : Option Value → jmM → Prop} : AW d 49 187 [l0, l1, l2] [v0, v1, v2, v3, v4] m Q ↔ AW d 49 189 [l0, l1, l2] [.int 6, v0, v1, v2, v3, v4] m Q := A_bipush hB_X5_becomeLike dX5_becomeLike_187 rfl
theorem dX5_becomeLike_189 : decode cX5_becomeLike 189 = .ok (.imul, 1) := by decide +kernel
theorem tX5_becomeLike_189 {d : Nat} {l0 l1 l2 : Option Value} {v2 v3 v4 v5 : Value} {x y : Int32} {m : jmM} {Q : Option Value → jmM → Prop} : AW d 49 189 [l0, l1, l2] [.int y, .int x, v2, v3, v4, v5] m Q ↔ AW d 49 190 [l0, l1, l2] [.int (x * y), v2, v3, v4, v5] m Q := A_imul hB_X5_becomeLike dX5_becomeLike_189
theorem dX5_becomeLike_190 : decode cX5_becomeLike 190 = .ok (.invokestatic 100, 3) := by decide +kernel
theorem tX5_becomeLike_190 {d : Nat} {l0 l1 l2 : Option Value} {n x y : Int32} {a b : Nat} {m : jmM} {Q : Option Value → jmM → Prop} : AW d 49 190 [l0, l1, l2] [.int n, .int y, .ref b, .int x, .ref a] m Q ↔ (0 ≤ n.toInt ∧ 0 ≤ y.toInt ∧ 0 ≤ x.toInt ∧ x.toInt + n.toInt ≤ ((mS m a).2 : Int) ∧ y.toInt + n.toInt ≤ ((mS m b).2 : Int) ∧ (mS m a).1 = (mS m b).1 ∧ ((mS m b).1 = 20 ∨ (mS m b).1 = 21)) ∧ AW d 49 193 [l0, l1, l2] [] (if (mS m b).1 = 20 then cI m b (va_cpy (mI m a) (mI m b) (jx x) (jx y) (jx n)) else cL m b (va_cpy (mL m a) (mL m b) (jx x) (jx y) (jx n))) Q := A_copy hB_X5_becomeLike dX5_becomeLike_190 hO_X5_becomeLike fS_5_100 (Nat.le_of_ble_eq_true rfl)
theorem dX5_becomeLike_193 : decode cX5_becomeLike 193 = .ok (.aload_n 1, 1) := by decide +kernel
theorem tX5_becomeLike_193 {d : Nat} {l0 l2 : Option Value} {x : Nat} {m : jmM} {Q : Option Value → jmM → Prop} : AW d 49 193 [l0, some (.ref x), l2] [] m Q ↔ AW d 49 194 [l0, some (.ref x), l2] [.ref x] m Q := A_aload_n hB_X5_becomeLike dX5_becomeLike_193 rfl
theorem dX5_becomeLike_194 : decode cX5_becomeLike 194 = .ok (.getfield 75, 3) := by decide +kernel
theorem tX5_becomeLike_194 {d : Nat} {l0 l1 l2 : Option Value} {a : Nat} {m : jmM} {Q : Option Value → jmM → Prop} : AW d 49 194 [l0, l1, l2] [.ref a] m Q ↔ (mS m a).1 = 5 ∧ AW d 49 197 [l0, l1, l2] [va_rf (mR m a 18)] m Q := A_getfield (f := fun m a => va_rf (mR m a 18)) hB_X5_becomeLike dX5_becomeLike_194 hO_X5_becomeLike fF_5_75 rfl
theorem dX5_becomeLike_197 : decode cX5_becomeLike 197 = .ok (.iconst 0, 1) := by decide +kernel
theorem tX5_becomeLike_197 {d : Nat} {l0 l1 l2 : Option Value} {v0 : Value} {m : jmM} {Q : Option Value → jmM → Prop} : AW d 49 197 [l0, l1, l2] [v0] m Q ↔ AW d 49 198 [l0, l1, l2] [.int 0, v0] m Q := A_iconst hB_X5_becomeLike dX5_becomeLike_197 (by decide)
theorem dX5_becomeLike_198 : decode cX5_becomeLike 198 = .ok (.aload_n 0, 1) := by decide +kernel
theorem tX5_becomeLike_198 {d : Nat} {l1 l2 : Option Value} {v0 v1 : Value} {x : Nat} {m : jmM} {Q : Option Value → jmM → Prop} : AW d 49 198 [some (.ref x), l1, l2] [v0, v1] m Q ↔ AW d 49 199 [some (.ref x), l1, l2] [.ref x, v0, v1] m Q := A_aload_n hB_X5_becomeLike dX5_becomeLike_198 rfl
theorem dX5_becomeLike_199 : decode cX5_becomeLike 199 = .ok (.getfield 75, 3) := by decide +kernel
theorem tX5_becomeLike_199 {d : Nat} {l0 l1 l2 : Option Value} {v1 v2 : Value} {a : Nat} {m : jmM} {Q : Option Value → jmM → Prop} : AW d 49 199 [l0, l1, l2] [.ref a, v1, v2] m Q ↔ (mS m a).1 = 5 ∧ AW d 49 202 [l0, l1, l2] [va_rf (mR m a 18), v1, v2] m Q := A_getfield (f := fun m a => va_rf (mR m a 18)) hB_X5_becomeLike dX5_becomeLike_199 hO_X5_becomeLike fF_5_75 rfl
theorem dX5_becomeLike_202 : decode cX5_becomeLike 202 = .ok (.iconst 0, 1) := by decide +kernel
theorem tX5_becomeLike_202 {d : Nat} {l0 l1 l2 : Option Value} {v0 v1 v2 : Value} {m : jmM} {Q : Option Value → jmM → Prop} : AW d 49 202 [l0, l1, l2] [v0, v1, v2] m Q ↔ AW d 49 203 [l0, l1, l2] [.int 0, v0, v1, v2] m Q := A_iconst hB_X5_becomeLike dX5_becomeLike_202 (by decide)
theorem dX5_becomeLike_203 : decode cX5_becomeLike 203 = .ok (.bipush 6, 2) := by decide +kernel
theorem tX5_becomeLike_203 {d : Nat} {l0 l1 l2 : Option Value} {v0 v1 v2 v3 : Value} {m : jmM} {Q : Option Value → jmM → Prop} : AW d 49 203 [l0, l1, l2] [v0, v1, v2, v3] m Q ↔ AW d 49 205 [l0, l1, l2] [.int 6, v0, v1, v2, v3] m Q := A_bipush hB_X5_becomeLike dX5_becomeLike_203 rfl
theorem dX5_becomeLike_205 : decode cX5_becomeLike 205 = .ok (.invokestatic 100, 3) := by decide +kernel
theorem tX5_becomeLike_205 {d : Nat} {l0 l1 l2 : Option Value} {n x y : Int32} {a b : Nat} {m : jmM} {Q : Option Value → jmM → Prop} : AW d 49 205 [l0, l1, l2] [.int n, .int y, .ref b, .int x, .ref a] m Q ↔ (0 ≤ n.toInt ∧ 0 ≤ y.toInt ∧ 0 ≤ x.toInt ∧ x.toInt + n.toInt ≤ ((mS m a).2 : Int) ∧ y.toInt + n.toInt ≤ ((mS m b).2 : Int) ∧ (mS m a).1 = (mS m b).1 ∧ ((mS m b).1 = 20 ∨ (mS m b).1 = 21)) ∧ AW d 49 208 [l0, l1, l2] [] (if (mS m b).1 = 20 then cI m b (va_cpy (mI m a) (mI m b) (jx x) (jx y) (jx n)) else cL m b (va_cpy (mL m a) (mL m b) (jx x) (jx y) (jx n))) Q := A_copy hB_X5_becomeLike dX5_becomeLike_205 hO_X5_becomeLike fS_5_100 (Nat.le_of_ble_eq_true rfl)
theorem dX5_becomeLike_208 : decode cX5_becomeLike 208 = .ok (.iconst 0, 1) := by decide +kernel
theorem tX5_becomeLike_208 {d : Nat} {l0 l1 l2 : Option Value} {m : jmM} {Q : Option Value → jmM → Prop} : AW d 49 208 [l0, l1, l2] [] m Q ↔ AW d 49 209 [l0, l1, l2] [.int 0] m Q := A_iconst hB_X5_becomeLike dX5_becomeLike_208 (by decide)
theorem dX5_becomeLike_209 : decode cX5_becomeLike 209 = .ok (.istore_n 2, 1) := by decide +kernel
theorem tX5_becomeLike_209 {d : Nat} {l0 l1 l2 : Option Value} {x : Int32} {m : jmM} {Q : Option Value → jmM → Prop} : AW d 49 209 [l0, l1, l2] [.int x] m Q ↔ AW d 49 210 [l0, jc1 l1, some (.int x)] [] m Q := A_istore_n hB_X5_becomeLike dX5_becomeLike_209 (Nat.le_of_ble_eq_true rfl) rfl
theorem dX5_becomeLike_210 : decode cX5_becomeLike 210 = .ok (.iload_n 2, 1) := by decide +kernel
theorem tX5_becomeLike_210 {d : Nat} {l0 l1 : Option Value} {x : Int32} {m : jmM} {Q : Option Value → jmM → Prop} : AW d 49 210 [l0, l1, some (.int x)] [] m Q ↔ AW d 49 211 [l0, l1, some (.int x)] [.int x] m Q := A_iload_n hB_X5_becomeLike dX5_becomeLike_210 rfl
theorem dX5_becomeLike_211 : decode cX5_becomeLike 211 = .ok (.aload_n 0, 1) := by decide +kernel
theorem tX5_becomeLike_211 {d : Nat} {l1 l2 : Option Value} {v0 : Value} {x : Nat} {m : jmM} {Q : Option Value → jmM → Prop} : AW d 49 211 [some (.ref x), l1, l2] [v0] m Q ↔ AW d 49 212 [some (.ref x), l1, l2] [.ref x, v0] m Q := A_aload_n hB_X5_becomeLike dX5_becomeLike_211 rfl
theorem dX5_becomeLike_212 : decode cX5_becomeLike 212 = .ok (.getfield 51, 3) := by decide +kernel
theorem tX5_becomeLike_212 {d : Nat} {l0 l1 l2 : Option Value} {v1 : Value} {a : Nat} {m : jmM} {Q : Option Value → jmM → Prop} : AW d 49 212 [l0, l1, l2] [.ref a, v1] m Q ↔ (mS m a).1 = 5 ∧ AW d 49 215 [l0, l1, l2] [.int (mI m a 11), v1] m Q := A_getfield (f := fun m a => .int (mI m a 11)) hB_X5_becomeLike dX5_becomeLike_212 hO_X5_becomeLike fF_5_51 rfl
theorem dX5_becomeLike_215 : decode cX5_becomeLike 215 = .ok (.if_icmp .ge 21, 3) := by decide +kernel
theorem tX5_becomeLike_215 {d : Nat} {l0 l1 l2 : Option Value} {x y : Int32} {m : jmM} {Q : Option Value → jmM → Prop} : AW d 49 215 [l0, l1, l2] [.int y, .int x] m Q ↔ if y ≤ x then AW d 49 236 [l0, l1, l2] [] m Q else AW d 49 218 [l0, l1, l2] [] m Q := A_icmp_ge hB_X5_becomeLike dX5_becomeLike_215 (by decide)
theorem dX5_becomeLike_218 : decode cX5_becomeLike 218 = .ok (.aload_n 0, 1) := by decide +kernel
theorem tX5_becomeLike_218 {d : Nat} {l1 l2 : Option Value} {x : Nat} {m : jmM} {Q : Option Value → jmM → Prop} : AW d 49 218 [some (.ref x), l1, l2] [] m Q ↔ AW d 49 219 [some (.ref x), l1, l2] [.ref x] m Q := A_aload_n hB_X5_becomeLike dX5_becomeLike_218 rfl
theorem dX5_becomeLike_219 : decode cX5_becomeLike 219 = .ok (.getfield 67, 3) := by decide +kernel
theorem tX5_becomeLike_219 {d : Nat} {l0 l1 l2 : Option Value} {a : Nat} {m : jmM} {Q : Option Value → jmM → Prop} : AW d 49 219 [l0, l1, l2] [.ref a] m Q ↔ (mS m a).1 = 5 ∧ AW d 49 222 [l0, l1, l2] [va_rf (mR m a 16)] m Q := A_getfield (f := fun m a => va_rf (mR m a 16)) hB_X5_becomeLike dX5_becomeLike_219 hO_X5_becomeLike fF_5_67 rfl
theorem dX5_becomeLike_222 : decode cX5_becomeLike 222 = .ok (.iload_n 2, 1) := by decide +kernel
theorem tX5_becomeLike_222 {d : Nat} {l0 l1 : Option Value} {v0 : Value} {x : Int32} {m : jmM} {Q : Option Value → jmM → Prop} : AW d 49 222 [l0, l1, some (.int x)] [v0] m Q ↔ AW d 49 223 [l0, l1, some (.int x)] [.int x, v0] m Q := A_iload_n hB_X5_becomeLike dX5_becomeLike_222 rfl
theorem dX5_becomeLike_223 : decode cX5_becomeLike 223 = .ok (.aload_n 1, 1) := by decide +kernel
theorem tX5_becomeLike_223 {d : Nat} {l0 l2 : Option Value} {v0 v1 : Value} {x : Nat} {m : jmM} {Q : Option Value → jmM → Prop} : AW d 49 223 [l0, some (.ref x), l2] [v0, v1] m Q ↔ AW d 49 224 [l0, some (.ref x), l2] [.ref x, v0, v1] m Q := A_aload_n hB_X5_becomeLike dX5_becomeLike_223 rfl
theorem dX5_becomeLike_224 : decode cX5_becomeLike 224 = .ok (.getfield 67, 3) := by decide +kernel
theorem tX5_becomeLike_224 {d : Nat} {l0 l1 l2 : Option Value} {v1 v2 : Value} {a : Nat} {m : jmM} {Q : Option Value → jmM → Prop} : AW d 49 224 [l0, l1, l2] [.ref a, v1, v2] m Q ↔ (mS m a).1 = 5 ∧ AW d 49 227 [l0, l1, l2] [va_rf (mR m a 16), v1, v2] m Q := A_getfield (f := fun m a => va_rf (mR m a 16)) hB_X5_becomeLike dX5_becomeLike_224 hO_X5_becomeLike fF_5_67 rfl
theorem dX5_becomeLike_227 : decode cX5_becomeLike 227 = .ok (.iload_n 2, 1) := by decide +kernel
theorem tX5_becomeLike_227 {d : Nat} {l0 l1 : Option Value} {v0 v1 v2 : Value} {x : Int32} {m : jmM} {Q : Option Value → jmM → Prop} : AW d 49 227 [l0, l1, some (.int x)] [v0, v1, v2] m Q ↔ AW d 49 228 [l0, l1, some (.int x)] [.int x, v0, v1, v2] m Q := A_iload_n hB_X5_becomeLike dX5_becomeLike_227 rfl
theorem dX5_becomeLike_228 : decode cX5_becomeLike 228 = .ok (.baload, 1) := by decide +kernel
theorem tX5_becomeLike_228 {d : Nat} {l0 l1 l2 : Option Value} {v2 v3 : Value} {i : Int32} {a : Nat} {m : jmM} {Q : Option Value → jmM → Prop} : AW d 49 228 [l0, l1, l2] [.int i, .ref a, v2, v3] m Q ↔ (((mS m a).1 = 22 ∨ (mS m a).1 = 23) ∧ jIx i (mS m a).2) ∧ AW d 49 229 [l0, l1, l2] [.int (mI m a (jx i)), v2, v3] m Q := A_baload hB_X5_becomeLike dX5_becomeLike_228
theorem dX5_becomeLike_229 : decode cX5_becomeLike 229 = .ok (.bastore, 1) := by decide +kernel
theorem tX5_becomeLike_229 {d : Nat} {l0 l1 l2 : Option Value} {x i : Int32} {a : Nat} {m : jmM} {Q : Option Value → jmM → Prop} : AW d 49 229 [l0, l1, l2] [.int x, .int i, .ref a] m Q ↔ (((mS m a).1 = 22 ∨ (mS m a).1 = 23) ∧ jIx i (mS m a).2) ∧ AW d 49 230 [l0, l1, l2] [] (cI m a (jup (mI m a) (jx i) (if (mS m a).1 = 22 then vp_nar .byte x else vp_nar .boolean x))) Q := A_bastore hB_X5_becomeLike dX5_becomeLike_229
theorem dX5_becomeLike_230 : decode cX5_becomeLike 230 = .ok (.iinc 2 1, 3) := by decide +kernel
theorem tX5_becomeLike_230 {d : Nat} {l0 l1 : Option Value} {x : Int32} {m : jmM} {Q : Option Value → jmM → Prop} : AW d 49 230 [l0, l1, some (.int x)] [] m Q ↔ AW d 49 233 [l0, jc1 l1, some (.int (x + 1))] [] m Q := A_iinc hB_X5_becomeLike dX5_becomeLike_230 rfl (Nat.le_of_ble_eq_true rfl) (v := 1) (by decide) rfl
theorem dX5_becomeLike_233 : decode cX5_becomeLike 233 = .ok (.goto (-23), 3) := by decide +kernel
theorem tX5_becomeLike_233 {d : Nat} {l0 l1 l2 : Option Value} {m : jmM} {Q : Option Value → jmM → Prop} : AW d 49 233 [l0, l1, l2] [] m Q ↔ AW d 49 210 [l0, l1, l2] [] m Q := A_goto hB_X5_becomeLike dX5_becomeLike_233 (by decide)
theorem dX5_becomeLike_236 : decode cX5_becomeLike 236 = .ok (.return_, 1) := by decide +kernel
theorem tX5_becomeLike_236 {d : Nat} {l0 l1 l2 : Option Value} {m : jmM} {Q : Option Value → jmM → Prop} : AW d 49 236 [l0, l1, l2] [] m Q ↔ Q none m := A_return hB_X5_becomeLike dX5_becomeLike_236 hR_X5_becomeLike
theorem hB_X5_follow : jB 50 = cX5_follow := rfl
theorem hO_X5_follow : jO 50 = 5 := rfl
theorem hR_X5_follow : jRt 50 = none := rfl
theorem nX5_follow (d : Nat) (x0 : Nat) (x1 : Nat) (m : jmM) (Q : Option Value → jmM → Prop) : CC (d + 1) 50 [.ref x0, .ref x1] m Q ↔ AW d 50 0 [some (.ref x0), some (.ref x1)] [] m Q := CC_body (Nat.le_of_ble_eq_true rfl)
theorem dX5_follow_0 : decode cX5_follow 0 = .ok (.aload_n 0, 1) := by decide +kernel
theorem tX5_follow_0 {d : Nat} {l1 : Option Value} {x : Nat} {m : jmM} {Q : Option Value → jmM → Prop} : AW d 50 0 [some (.ref x), l1] [] m Q ↔ AW d 50 1 [some (.ref x), l1] [.ref x] m Q := A_aload_n hB_X5_follow dX5_follow_0 rfl
theorem dX5_follow_1 : decode cX5_follow 1 = .ok (.aload_n 1, 1) := by decide +kernel
theorem tX5_follow_1 {d : Nat} {l0 : Option Value} {v0 : Value} {x : Nat} {m : jmM} {Q : Option Value → jmM → Prop} : AW d 50 1 [l0, some (.ref x)] [v0] m Q ↔ AW d 50 2 [l0, some (.ref x)] [.ref x, v0] m Q := A_aload_n hB_X5_follow dX5_follow_1 rfl
theorem dX5_follow_2 : decode cX5_follow 2 = .ok (.putfield 22, 3) := by decide +kernel
theorem tX5_follow_2 {d : Nat} {l0 l1 : Option Value} {x a : Nat} {m : jmM} {Q : Option Value → jmM → Prop} : AW d 50 2 [l0, l1] [.ref x, .ref a] m Q ↔ (mS m a).1 = 5 ∧ AW d 50 5 [l0, l1] [] (cR m a (jup (mR m a) 2 (some x))) Q := A_putR hB_X5_follow dX5_follow_2 hO_X5_follow fF_5_22 rfl (fun h => Bool.noConfusion h)
theorem tX5_follow_2q {d : Nat} {l0 l1 : Option Value} {x : Option Nat} {a : Nat} {m : jmM} {Q : Option Value → jmM → Prop} : AW d 50 2 [l0, l1] [va_rf x, .ref a] m Q ↔ (mS m a).1 = 5 ∧ AW d 50 5 [l0, l1] [] (cR m a (jup (mR m a) 2 x)) Q := A_putQ hB_X5_follow dX5_follow_2 hO_X5_follow fF_5_22 rfl (fun h => Bool.noConfusion h)
theorem tX5_follow_2n {d : Nat} {l0 l1 : Option Value} {a : Nat} {m : jmM} {Q : Option Value → jmM → Prop} : AW d 50 2 [l0, l1] [.null, .ref a] m Q ↔ (mS m a).1 = 5 ∧ AW d 50 5 [l0, l1] [] (cR m a (jup (mR m a) 2 none)) Q := A_putQ (x := none) hB_X5_follow dX5_follow_2 hO_X5_follow fF_5_22 rfl (fun h => Bool.noConfusion h)
theorem dX5_follow_5 : decode cX5_follow 5 = .ok (.return_, 1) := by decide +kernel
theorem tX5_follow_5 {d : Nat} {l0 l1 : Option Value} {m : jmM} {Q : Option Value → jmM → Prop} : AW d 50 5 [l0, l1] [] m Q ↔ Q none m := A_return hB_X5_follow dX5_follow_5 hR_X5_follow
theorem hB_X5_besideWant : jB 51 = cX5_besideWant := rfl
theorem hO_X5_besideWant : jO 51 = 5 := rfl
theorem hR_X5_besideWant : jRt 51 = (some .int) := rfl
theorem nX5_besideWant (d : Nat) (x0 : Nat) (m : jmM) (Q : Option Value → jmM → Prop) : CC (d + 1) 51 [.ref x0] m Q ↔ AW d 51 0 [some (.ref x0)] [] m Q := CC_body (Nat.le_of_ble_eq_true rfl)
theorem dX5_besideWant_0 : decode cX5_besideWant 0 = .ok (.aload_n 0, 1) := by decide +kernel
theorem tX5_besideWant_0 {d : Nat} {x : Nat} {m : jmM} {Q : Option Value → jmM → Prop} : AW d 51 0 [some (.ref x)] [] m Q ↔ AW d 51 1 [some (.ref x)] [.ref x] m Q := A_aload_n hB_X5_besideWant dX5_besideWant_0 rfl
theorem dX5_besideWant_1 : decode cX5_besideWant 1 = .ok (.getfield 36, 3) := by decide +kernel
theorem tX5_besideWant_1 {d : Nat} {l0 : Option Value} {a : Nat} {m : jmM} {Q : Option Value → jmM → Prop} : AW d 51 1 [l0] [.ref a] m Q ↔ (mS m a).1 = 5 ∧ AW d 51 4 [l0] [.int (mI m a 6)] m Q := A_getfield (f := fun m a => .int (mI m a 6)) hB_X5_besideWant dX5_besideWant_1 hO_X5_besideWant fF_5_36 rfl
theorem dX5_besideWant_4 : decode cX5_besideWant 4 = .ok (.aload_n 0, 1) := by decide +kernel
theorem tX5_besideWant_4 {d : Nat} {v0 : Value} {x : Nat} {m : jmM} {Q : Option Value → jmM → Prop} : AW d 51 4 [some (.ref x)] [v0] m Q ↔ AW d 51 5 [some (.ref x)] [.ref x, v0] m Q := A_aload_n hB_X5_besideWant dX5_besideWant_4 rfl
theorem dX5_besideWant_5 : decode cX5_besideWant 5 = .ok (.getfield 12, 3) := by decide +kernel
theorem tX5_besideWant_5 {d : Nat} {l0 : Option Value} {v1 : Value} {a : Nat} {m : jmM} {Q : Option Value → jmM → Prop} : AW d 51 5 [l0] [.ref a, v1] m Q ↔ (mS m a).1 = 5 ∧ AW d 51 8 [l0] [va_rf (mR m a 0), v1] m Q := A_getfield (f := fun m a => va_rf (mR m a 0)) hB_X5_besideWant dX5_besideWant_5 hO_X5_besideWant fF_5_12 rfl
theorem dX5_besideWant_8 : decode cX5_besideWant 8 = .ok (.invokevirtual 106, 3) := by decide +kernel
theorem tX5_besideWant_8 {d : Nat} {l0 : Option Value} {v1 : Value} {a : Nat} {m : jmM} {Q : Option Value → jmM → Prop} : AW d 51 8 [l0] [.ref a, v1] m Q ↔ (mS m a).1 = 8 ∧ CC d 123 [.ref a] m (jK d 51 11 [l0] [v1] Q) := A_callV hB_X5_besideWant dX5_besideWant_8 hO_X5_besideWant fS_5_106 ⟨Nat.le_of_ble_eq_true rfl, Nat.le_of_ble_eq_true rfl⟩ rfl rfl rfl
theorem dX5_besideWant_11 : decode cX5_besideWant 11 = .ok (.isub, 1) := by decide +kernel
theorem tX5_besideWant_11 {d : Nat} {l0 : Option Value} {x y : Int32} {m : jmM} {Q : Option Value → jmM → Prop} : AW d 51 11 [l0] [.int y, .int x] m Q ↔ AW d 51 12 [l0] [.int (x - y)] m Q := A_isub hB_X5_besideWant dX5_besideWant_11
theorem dX5_besideWant_12 : decode cX5_besideWant 12 = .ok (.invokestatic 109, 3) := by decide +kernel
theorem tX5_besideWant_12 {d : Nat} {l0 : Option Value} {x : Int32} {m : jmM} {Q : Option Value → jmM → Prop} : AW d 51 12 [l0] [.int x] m Q ↔ AW d 51 15 [l0] [.int (if 0 ≤ x then x else 0 - x)] m Q := A_abs hB_X5_besideWant dX5_besideWant_12 hO_X5_besideWant fS_5_109 (Nat.le_of_ble_eq_true rfl)
theorem dX5_besideWant_15 : decode cX5_besideWant 15 = .ok (.ireturn, 1) := by decide +kernel
theorem tX5_besideWant_15 {d : Nat} {l0 : Option Value} {x : Int32} {m : jmM} {Q : Option Value → jmM → Prop} : AW d 51 15 [l0] [.int x] m Q ↔ Q (some (.int x)) m := A_ireturn hB_X5_besideWant dX5_besideWant_15 hR_X5_besideWant
theorem hB_X5_shiftWide : jB 52 = cX5_shiftWide := rfl
theorem hO_X5_shiftWide : jO 52 = 5 := rfl
theorem hR_X5_shiftWide : jRt 52 = none := rfl
theorem nX5_shiftWide (d : Nat) (x0 : Nat) (x1 : Int32) (m : jmM) (Q : Option Value → jmM → Prop) : CC (d + 1) 52 [.ref x0, .int x1] m Q ↔ AW d 52 0 [some (.ref x0), some (.int x1)] [] m Q := CC_body (Nat.le_of_ble_eq_true rfl)
theorem dX5_shiftWide_0 : decode cX5_shiftWide 0 = .ok (.aload_n 0, 1) := by decide +kernel
theorem tX5_shiftWide_0 {d : Nat} {l1 : Option Value} {x : Nat} {m : jmM} {Q : Option Value → jmM → Prop} : AW d 52 0 [some (.ref x), l1] [] m Q ↔ AW d 52 1 [some (.ref x), l1] [.ref x] m Q := A_aload_n hB_X5_shiftWide dX5_shiftWide_0 rfl
theorem dX5_shiftWide_1 : decode cX5_shiftWide 1 = .ok (.aload_n 0, 1) := by decide +kernel
theorem tX5_shiftWide_1 {d : Nat} {l1 : Option Value} {v0 : Value} {x : Nat} {m : jmM} {Q : Option Value → jmM → Prop} : AW d 52 1 [some (.ref x), l1] [v0] m Q ↔ AW d 52 2 [some (.ref x), l1] [.ref x, v0] m Q := A_aload_n hB_X5_shiftWide dX5_shiftWide_1 rfl
theorem dX5_shiftWide_2 : decode cX5_shiftWide 2 = .ok (.getfield 36, 3) := by decide +kernel
theorem tX5_shiftWide_2 {d : Nat} {l0 l1 : Option Value} {v1 : Value} {a : Nat} {m : jmM} {Q : Option Value → jmM → Prop} : AW d 52 2 [l0, l1] [.ref a, v1] m Q ↔ (mS m a).1 = 5 ∧ AW d 52 5 [l0, l1] [.int (mI m a 6), v1] m Q := A_getfield (f := fun m a => .int (mI m a 6)) hB_X5_shiftWide dX5_shiftWide_2 hO_X5_shiftWide fF_5_36 rfl
theorem dX5_shiftWide_5 : decode cX5_shiftWide 5 = .ok (.iload_n 1, 1) := by decide +kernel
theorem tX5_shiftWide_5 {d : Nat} {l0 : Option Value} {v0 v1 : Value} {x : Int32} {m : jmM} {Q : Option Value → jmM → Prop} : AW d 52 5 [l0, some (.int x)] [v0, v1] m Q ↔ AW d 52 6 [l0, some (.int x)] [.int x, v0, v1] m Q := A_iload_n hB_X5_shiftWide dX5_shiftWide_5 rfl
theorem dX5_shiftWide_6 : decode cX5_shiftWide 6 = .ok (.iadd, 1) := by decide +kernel
theorem tX5_shiftWide_6 {d : Nat} {l0 l1 : Option Value} {v2 : Value} {x y : Int32} {m : jmM} {Q : Option Value → jmM → Prop} : AW d 52 6 [l0, l1] [.int y, .int x, v2] m Q ↔ AW d 52 7 [l0, l1] [.int (x + y), v2] m Q := A_iadd hB_X5_shiftWide dX5_shiftWide_6
theorem dX5_shiftWide_7 : decode cX5_shiftWide 7 = .ok (.i2l, 1) := by decide +kernel
theorem tX5_shiftWide_7 {d : Nat} {l0 l1 : Option Value} {v1 : Value} {x : Int32} {m : jmM} {Q : Option Value → jmM → Prop} : AW d 52 7 [l0, l1] [.int x, v1] m Q ↔ AW d 52 8 [l0, l1] [.long x.toInt64, v1] m Q := A_i2l hB_X5_shiftWide dX5_shiftWide_7
theorem dX5_shiftWide_8 : decode cX5_shiftWide 8 = .ok (.lconst 0, 1) := by decide +kernel
theorem tX5_shiftWide_8 {d : Nat} {l0 l1 : Option Value} {v0 v1 : Value} {m : jmM} {Q : Option Value → jmM → Prop} : AW d 52 8 [l0, l1] [v0, v1] m Q ↔ AW d 52 9 [l0, l1] [.long 0, v0, v1] m Q := A_lconst hB_X5_shiftWide dX5_shiftWide_8 (by decide)
theorem dX5_shiftWide_9 : decode cX5_shiftWide 9 = .ok (.ldc2_w 112, 3) := by decide +kernel
theorem tX5_shiftWide_9 {d : Nat} {l0 l1 : Option Value} {v0 v1 v2 : Value} {m : jmM} {Q : Option Value → jmM → Prop} : AW d 52 9 [l0, l1] [v0, v1, v2] m Q ↔ AW d 52 12 [l0, l1] [.long 9999, v0, v1, v2] m Q := A_ldc2_w hB_X5_shiftWide dX5_shiftWide_9 hO_X5_shiftWide fL2_5_112
theorem dX5_shiftWide_12 : decode cX5_shiftWide 12 = .ok (.invokestatic 114, 3) := by decide +kernel
theorem tX5_shiftWide_12 {d : Nat} {l0 l1 : Option Value} {v3 : Value} {y0 y1 y2 : Value} {m : jmM} {Q : Option Value → jmM → Prop} : AW d 52 12 [l0, l1] [y0, y1, y2, v3] m Q ↔ CC d 185 [y2, y1, y0] m (jK d 52 15 [l0, l1] [v3] Q) := A_callS4 hB_X5_shiftWide dX5_shiftWide_12 hO_X5_shiftWide fS_5_114 ⟨Nat.le_of_ble_eq_true rfl, Nat.le_of_ble_eq_true rfl⟩ rfl rfl
theorem dX5_shiftWide_15 : decode cX5_shiftWide 15 = .ok (.l2i, 1) := by decide +kernel
theorem tX5_shiftWide_15 {d : Nat} {l0 l1 : Option Value} {v1 : Value} {x : Int64} {m : jmM} {Q : Option Value → jmM → Prop} : AW d 52 15 [l0, l1] [.long x, v1] m Q ↔ AW d 52 16 [l0, l1] [.int x.toInt32, v1] m Q := A_l2i hB_X5_shiftWide dX5_shiftWide_15
theorem dX5_shiftWide_16 : decode cX5_shiftWide 16 = .ok (.putfield 36, 3) := by decide +kernel
theorem tX5_shiftWide_16 {d : Nat} {l0 l1 : Option Value} {x : Int32} {a : Nat} {m : jmM} {Q : Option Value → jmM → Prop} : AW d 52 16 [l0, l1] [.int x, .ref a] m Q ↔ (mS m a).1 = 5 ∧ AW d 52 19 [l0, l1] [] (cI m a (jup (mI m a) 6 x)) Q := A_putI hB_X5_shiftWide dX5_shiftWide_16 hO_X5_shiftWide fF_5_36 rfl (fun h => Bool.noConfusion h)
theorem dX5_shiftWide_19 : decode cX5_shiftWide 19 = .ok (.return_, 1) := by decide +kernel
theorem tX5_shiftWide_19 {d : Nat} {l0 l1 : Option Value} {m : jmM} {Q : Option Value → jmM → Prop} : AW d 52 19 [l0, l1] [] m Q ↔ Q none m := A_return hB_X5_shiftWide dX5_shiftWide_19 hR_X5_shiftWide
theorem hB_X5_goOn : jB 53 = cX5_goOn := rfl
theorem hO_X5_goOn : jO 53 = 5 := rfl
theorem hR_X5_goOn : jRt 53 = (some .int) := rfl
theorem nX5_goOn (d : Nat) (x0 : Nat) (x1 : Int32) (x2 : Nat) (m : jmM) (Q : Option Value → jmM → Prop) : CC (d + 1) 53 [.ref x0, .int x1, .ref x2] m Q ↔ AW d 53 0 [some (.ref x0), some (.int x1), some (.ref x2), none] [] m Q := CC_body (Nat.le_of_ble_eq_true rfl)
theorem dX5_goOn_0 : decode cX5_goOn 0 = .ok (.iconst 0, 1) := by decide +kernel
theorem tX5_goOn_0 {d : Nat} {l0 l1 l2 l3 : Option Value} {m : jmM} {Q : Option Value → jmM → Prop} : AW d 53 0 [l0, l1, l2, l3] [] m Q ↔ AW d 53 1 [l0, l1, l2, l3] [.int 0] m Q := A_iconst hB_X5_goOn dX5_goOn_0 (by decide)
theorem dX5_goOn_1 : decode cX5_goOn 1 = .ok (.istore_n 3, 1) := by decide +kernel
theorem tX5_goOn_1 {d : Nat} {l0 l1 l2 l3 : Option Value} {x : Int32} {m : jmM} {Q : Option Value → jmM → Prop} : AW d 53 1 [l0, l1, l2, l3] [.int x] m Q ↔ AW d 53 2 [l0, l1, jc1 l2, some (.int x)] [] m Q := A_istore_n hB_X5_goOn dX5_goOn_1 (Nat.le_of_ble_eq_true rfl) rfl
theorem dX5_goOn_2 : decode cX5_goOn 2 = .ok (.iload_n 3, 1) := by decide +kernel
theorem tX5_goOn_2 {d : Nat} {l0 l1 l2 : Option Value} {x : Int32} {m : jmM} {Q : Option Value → jmM → Prop} : AW d 53 2 [l0, l1, l2, some (.int x)] [] m Q ↔ AW d 53 3 [l0, l1, l2, some (.int x)] [.int x] m Q := A_iload_n hB_X5_goOn dX5_goOn_2 rfl
theorem dX5_goOn_3 : decode cX5_goOn 3 = .ok (.iload_n 1, 1) := by decide +kernel
theorem tX5_goOn_3 {d : Nat} {l0 l2 l3 : Option Value} {v0 : Value} {x : Int32} {m : jmM} {Q : Option Value → jmM → Prop} : AW d 53 3 [l0, some (.int x), l2, l3] [v0] m Q ↔ AW d 53 4 [l0, some (.int x), l2, l3] [.int x, v0] m Q := A_iload_n hB_X5_goOn dX5_goOn_3 rfl
theorem dX5_goOn_4 : decode cX5_goOn 4 = .ok (.if_icmp .ge 22, 3) := by decide +kernel
theorem tX5_goOn_4 {d : Nat} {l0 l1 l2 l3 : Option Value} {x y : Int32} {m : jmM} {Q : Option Value → jmM → Prop} : AW d 53 4 [l0, l1, l2, l3] [.int y, .int x] m Q ↔ if y ≤ x then AW d 53 26 [l0, l1, l2, l3] [] m Q else AW d 53 7 [l0, l1, l2, l3] [] m Q := A_icmp_ge hB_X5_goOn dX5_goOn_4 (by decide)
theorem dX5_goOn_7 : decode cX5_goOn 7 = .ok (.aload_n 0, 1) := by decide +kernel
theorem tX5_goOn_7 {d : Nat} {l1 l2 l3 : Option Value} {x : Nat} {m : jmM} {Q : Option Value → jmM → Prop} : AW d 53 7 [some (.ref x), l1, l2, l3] [] m Q ↔ AW d 53 8 [some (.ref x), l1, l2, l3] [.ref x] m Q := A_aload_n hB_X5_goOn dX5_goOn_7 rfl
theorem dX5_goOn_8 : decode cX5_goOn 8 = .ok (.getfield 25, 3) := by decide +kernel
theorem tX5_goOn_8 {d : Nat} {l0 l1 l2 l3 : Option Value} {a : Nat} {m : jmM} {Q : Option Value → jmM → Prop} : AW d 53 8 [l0, l1, l2, l3] [.ref a] m Q ↔ (mS m a).1 = 5 ∧ AW d 53 11 [l0, l1, l2, l3] [.int (mI m a 3)] m Q := A_getfield (f := fun m a => .int (mI m a 3)) hB_X5_goOn dX5_goOn_8 hO_X5_goOn fF_5_25 rfl
theorem dX5_goOn_11 : decode cX5_goOn 11 = .ok (.iconst 1, 1) := by decide +kernel
theorem tX5_goOn_11 {d : Nat} {l0 l1 l2 l3 : Option Value} {v0 : Value} {m : jmM} {Q : Option Value → jmM → Prop} : AW d 53 11 [l0, l1, l2, l3] [v0] m Q ↔ AW d 53 12 [l0, l1, l2, l3] [.int 1, v0] m Q := A_iconst hB_X5_goOn dX5_goOn_11 (by decide)
theorem dX5_goOn_12 : decode cX5_goOn 12 = .ok (.if_icmp .ne 14, 3) := by decide +kernel
theorem tX5_goOn_12 {d : Nat} {l0 l1 l2 l3 : Option Value} {x y : Int32} {m : jmM} {Q : Option Value → jmM → Prop} : AW d 53 12 [l0, l1, l2, l3] [.int y, .int x] m Q ↔ if x = y then AW d 53 15 [l0, l1, l2, l3] [] m Q else AW d 53 26 [l0, l1, l2, l3] [] m Q := A_icmp_ne hB_X5_goOn dX5_goOn_12 (by decide)
theorem dX5_goOn_15 : decode cX5_goOn 15 = .ok (.aload_n 0, 1) := by decide +kernel
theorem tX5_goOn_15 {d : Nat} {l1 l2 l3 : Option Value} {x : Nat} {m : jmM} {Q : Option Value → jmM → Prop} : AW d 53 15 [some (.ref x), l1, l2, l3] [] m Q ↔ AW d 53 16 [some (.ref x), l1, l2, l3] [.ref x] m Q := A_aload_n hB_X5_goOn dX5_goOn_15 rfl
theorem dX5_goOn_16 : decode cX5_goOn 16 = .ok (.aload_n 2, 1) := by decide +kernel
theorem tX5_goOn_16 {d : Nat} {l0 l1 l3 : Option Value} {v0 : Value} {x : Nat} {m : jmM} {Q : Option Value → jmM → Prop} : AW d 53 16 [l0, l1, some (.ref x), l3] [v0] m Q ↔ AW d 53 17 [l0, l1, some (.ref x), l3] [.ref x, v0] m Q := A_aload_n hB_X5_goOn dX5_goOn_16 rfl
theorem dX5_goOn_17 : decode cX5_goOn 17 = .ok (.invokevirtual 118, 3) := by decide +kernel
theorem tX5_goOn_17 {d : Nat} {l0 l1 l2 l3 : Option Value} {y0 : Value} {a : Nat} {m : jmM} {Q : Option Value → jmM → Prop} : AW d 53 17 [l0, l1, l2, l3] [y0, .ref a] m Q ↔ (mS m a).1 = 5 ∧ CC d 54 [.ref a, y0] m (jK d 53 20 [l0, l1, l2, l3] [] Q) := A_callV hB_X5_goOn dX5_goOn_17 hO_X5_goOn fS_5_118 ⟨Nat.le_of_ble_eq_true rfl, Nat.le_of_ble_eq_true rfl⟩ rfl rfl rfl
theorem dX5_goOn_20 : decode cX5_goOn 20 = .ok (.iinc 3 1, 3) := by decide +kernel
theorem tX5_goOn_20 {d : Nat} {l0 l1 l2 : Option Value} {x : Int32} {m : jmM} {Q : Option Value → jmM → Prop} : AW d 53 20 [l0, l1, l2, some (.int x)] [] m Q ↔ AW d 53 23 [l0, l1, jc1 l2, some (.int (x + 1))] [] m Q := A_iinc hB_X5_goOn dX5_goOn_20 rfl (Nat.le_of_ble_eq_true rfl) (v := 1) (by decide) rfl
theorem dX5_goOn_23 : decode cX5_goOn 23 = .ok (.goto (-21), 3) := by decide +kernel
theorem tX5_goOn_23 {d : Nat} {l0 l1 l2 l3 : Option Value} {m : jmM} {Q : Option Value → jmM → Prop} : AW d 53 23 [l0, l1, l2, l3] [] m Q ↔ AW d 53 2 [l0, l1, l2, l3] [] m Q := A_goto hB_X5_goOn dX5_goOn_23 (by decide)
theorem dX5_goOn_26 : decode cX5_goOn 26 = .ok (.iload_n 3, 1) := by decide +kernel
theorem tX5_goOn_26 {d : Nat} {l0 l1 l2 : Option Value} {x : Int32} {m : jmM} {Q : Option Value → jmM → Prop} : AW d 53 26 [l0, l1, l2, some (.int x)] [] m Q ↔ AW d 53 27 [l0, l1, l2, some (.int x)] [.int x] m Q := A_iload_n hB_X5_goOn dX5_goOn_26 rfl
theorem dX5_goOn_27 : decode cX5_goOn 27 = .ok (.ireturn, 1) := by decide +kernel
theorem tX5_goOn_27 {d : Nat} {l0 l1 l2 l3 : Option Value} {x : Int32} {m : jmM} {Q : Option Value → jmM → Prop} : AW d 53 27 [l0, l1, l2, l3] [.int x] m Q ↔ Q (some (.int x)) m := A_ireturn hB_X5_goOn dX5_goOn_27 hR_X5_goOn
theorem hB_X5_passMinute : jB 54 = cX5_passMinute := rfl
theorem hO_X5_passMinute : jO 54 = 5 := rfl
theorem hR_X5_passMinute : jRt 54 = none := rfl
theorem nX5_passMinute (d : Nat) (x0 : Nat) (x1 : Nat) (m : jmM) (Q : Option Value → jmM → Prop) : CC (d + 1) 54 [.ref x0, .ref x1] m Q ↔ AW d 54 0 [some (.ref x0), some (.ref x1), none, none, none, none, none, none] [] m Q := CC_body (Nat.le_of_ble_eq_true rfl)
theorem dX5_passMinute_0 : decode cX5_passMinute 0 = .ok (.aload_n 0, 1) := by decide +kernel
theorem tX5_passMinute_0 {d : Nat} {l1 l2 l3 l4 l5 l6 l7 : Option Value} {x : Nat} {m : jmM} {Q : Option Value → jmM → Prop} : AW d 54 0 [some (.ref x), l1, l2, l3, l4, l5, l6, l7] [] m Q ↔ AW d 54 1 [some (.ref x), l1, l2, l3, l4, l5, l6, l7] [.ref x] m Q := A_aload_n hB_X5_passMinute dX5_passMinute_0 rfl
theorem dX5_passMinute_1 : decode cX5_passMinute 1 = .ok (.getfield 18, 3) := by decide +kernel
theorem tX5_passMinute_1 {d : Nat} {l0 l1 l2 l3 l4 l5 l6 l7 : Option Value} {a : Nat} {m : jmM} {Q : Option Value → jmM → Prop} : AW d 54 1 [l0, l1, l2, l3, l4, l5, l6, l7] [.ref a] m Q ↔ (mS m a).1 = 5 ∧ AW d 54 4 [l0, l1, l2, l3, l4, l5, l6, l7] [va_rf (mR m a 1)] m Q := A_getfield (f := fun m a => va_rf (mR m a 1)) hB_X5_passMinute dX5_passMinute_1 hO_X5_passMinute fF_5_18 rfl
theorem dX5_passMinute_4 : decode cX5_passMinute 4 = .ok (.ifnull 20, 3) := by decide +kernel
theorem tX5_passMinute_4 {d : Nat} {l0 l1 l2 l3 l4 l5 l6 l7 : Option Value} {x : Option Nat} {m : jmM} {Q : Option Value → jmM → Prop} : AW d 54 4 [l0, l1, l2, l3, l4, l5, l6, l7] [va_rf x] m Q ↔ if x = none then AW d 54 24 [l0, l1, l2, l3, l4, l5, l6, l7] [] m Q else AW d 54 7 [l0, l1, l2, l3, l4, l5, l6, l7] [] m Q := A_ifnull hB_X5_passMinute dX5_passMinute_4 (by decide)
theorem tX5_passMinute_4r {d : Nat} {l0 l1 l2 l3 l4 l5 l6 l7 : Option Value} {x : Nat} {m : jmM} {Q : Option Value → jmM → Prop} : AW d 54 4 [l0, l1, l2, l3, l4, l5, l6, l7] [.ref x] m Q ↔ AW d 54 7 [l0, l1, l2, l3, l4, l5, l6, l7] [] m Q := A_ifnull_r hB_X5_passMinute dX5_passMinute_4 (t := 24) (by decide)
theorem dX5_passMinute_7 : decode cX5_passMinute 7 = .ok (.aload_n 0, 1) := by decide +kernel
theorem tX5_passMinute_7 {d : Nat} {l1 l2 l3 l4 l5 l6 l7 : Option Value} {x : Nat} {m : jmM} {Q : Option Value → jmM → Prop} : AW d 54 7 [some (.ref x), l1, l2, l3, l4, l5, l6, l7] [] m Q ↔ AW d 54 8 [some (.ref x), l1, l2, l3, l4, l5, l6, l7] [.ref x] m Q := A_aload_n hB_X5_passMinute dX5_passMinute_7 rfl
theorem dX5_passMinute_8 : decode cX5_passMinute 8 = .ok (.getfield 22, 3) := by decide +kernel
theorem tX5_passMinute_8 {d : Nat} {l0 l1 l2 l3 l4 l5 l6 l7 : Option Value} {a : Nat} {m : jmM} {Q : Option Value → jmM → Prop} : AW d 54 8 [l0, l1, l2, l3, l4, l5, l6, l7] [.ref a] m Q ↔ (mS m a).1 = 5 ∧ AW d 54 11 [l0, l1, l2, l3, l4, l5, l6, l7] [va_rf (mR m a 2)] m Q := A_getfield (f := fun m a => va_rf (mR m a 2)) hB_X5_passMinute dX5_passMinute_8 hO_X5_passMinute fF_5_22 rfl
theorem dX5_passMinute_11 : decode cX5_passMinute 11 = .ok (.ifnull 13, 3) := by decide +kernel
theorem tX5_passMinute_11 {d : Nat} {l0 l1 l2 l3 l4 l5 l6 l7 : Option Value} {x : Option Nat} {m : jmM} {Q : Option Value → jmM → Prop} : AW d 54 11 [l0, l1, l2, l3, l4, l5, l6, l7] [va_rf x] m Q ↔ if x = none then AW d 54 24 [l0, l1, l2, l3, l4, l5, l6, l7] [] m Q else AW d 54 14 [l0, l1, l2, l3, l4, l5, l6, l7] [] m Q := A_ifnull hB_X5_passMinute dX5_passMinute_11 (by decide)
theorem tX5_passMinute_11r {d : Nat} {l0 l1 l2 l3 l4 l5 l6 l7 : Option Value} {x : Nat} {m : jmM} {Q : Option Value → jmM → Prop} : AW d 54 11 [l0, l1, l2, l3, l4, l5, l6, l7] [.ref x] m Q ↔ AW d 54 14 [l0, l1, l2, l3, l4, l5, l6, l7] [] m Q := A_ifnull_r hB_X5_passMinute dX5_passMinute_11 (t := 24) (by decide)
theorem dX5_passMinute_14 : decode cX5_passMinute 14 = .ok (.aload_n 0, 1) := by decide +kernel
theorem tX5_passMinute_14 {d : Nat} {l1 l2 l3 l4 l5 l6 l7 : Option Value} {x : Nat} {m : jmM} {Q : Option Value → jmM → Prop} : AW d 54 14 [some (.ref x), l1, l2, l3, l4, l5, l6, l7] [] m Q ↔ AW d 54 15 [some (.ref x), l1, l2, l3, l4, l5, l6, l7] [.ref x] m Q := A_aload_n hB_X5_passMinute dX5_passMinute_14 rfl
theorem dX5_passMinute_15 : decode cX5_passMinute 15 = .ok (.getfield 51, 3) := by decide +kernel
theorem tX5_passMinute_15 {d : Nat} {l0 l1 l2 l3 l4 l5 l6 l7 : Option Value} {a : Nat} {m : jmM} {Q : Option Value → jmM → Prop} : AW d 54 15 [l0, l1, l2, l3, l4, l5, l6, l7] [.ref a] m Q ↔ (mS m a).1 = 5 ∧ AW d 54 18 [l0, l1, l2, l3, l4, l5, l6, l7] [.int (mI m a 11)] m Q := A_getfield (f := fun m a => .int (mI m a 11)) hB_X5_passMinute dX5_passMinute_15 hO_X5_passMinute fF_5_51 rfl
theorem dX5_passMinute_18 : decode cX5_passMinute 18 = .ok (.sipush 600, 3) := by decide +kernel
theorem tX5_passMinute_18 {d : Nat} {l0 l1 l2 l3 l4 l5 l6 l7 : Option Value} {v0 : Value} {m : jmM} {Q : Option Value → jmM → Prop} : AW d 54 18 [l0, l1, l2, l3, l4, l5, l6, l7] [v0] m Q ↔ AW d 54 21 [l0, l1, l2, l3, l4, l5, l6, l7] [.int 600, v0] m Q := A_sipush hB_X5_passMinute dX5_passMinute_18 rfl
theorem dX5_passMinute_21 : decode cX5_passMinute 21 = .ok (.if_icmp .lt 4, 3) := by decide +kernel
theorem tX5_passMinute_21 {d : Nat} {l0 l1 l2 l3 l4 l5 l6 l7 : Option Value} {x y : Int32} {m : jmM} {Q : Option Value → jmM → Prop} : AW d 54 21 [l0, l1, l2, l3, l4, l5, l6, l7] [.int y, .int x] m Q ↔ if x < y then AW d 54 25 [l0, l1, l2, l3, l4, l5, l6, l7] [] m Q else AW d 54 24 [l0, l1, l2, l3, l4, l5, l6, l7] [] m Q := A_icmp_lt hB_X5_passMinute dX5_passMinute_21 (by decide)
theorem dX5_passMinute_24 : decode cX5_passMinute 24 = .ok (.return_, 1) := by decide +kernel
theorem tX5_passMinute_24 {d : Nat} {l0 l1 l2 l3 l4 l5 l6 l7 : Option Value} {m : jmM} {Q : Option Value → jmM → Prop} : AW d 54 24 [l0, l1, l2, l3, l4, l5, l6, l7] [] m Q ↔ Q none m := A_return hB_X5_passMinute dX5_passMinute_24 hR_X5_passMinute
theorem dX5_passMinute_25 : decode cX5_passMinute 25 = .ok (.aload_n 0, 1) := by decide +kernel
theorem tX5_passMinute_25 {d : Nat} {l1 l2 l3 l4 l5 l6 l7 : Option Value} {x : Nat} {m : jmM} {Q : Option Value → jmM → Prop} : AW d 54 25 [some (.ref x), l1, l2, l3, l4, l5, l6, l7] [] m Q ↔ AW d 54 26 [some (.ref x), l1, l2, l3, l4, l5, l6, l7] [.ref x] m Q := A_aload_n hB_X5_passMinute dX5_passMinute_25 rfl
theorem dX5_passMinute_26 : decode cX5_passMinute 26 = .ok (.aload_n 1, 1) := by decide +kernel
theorem tX5_passMinute_26 {d : Nat} {l0 l2 l3 l4 l5 l6 l7 : Option Value} {v0 : Value} {x : Nat} {m : jmM} {Q : Option Value → jmM → Prop} : AW d 54 26 [l0, some (.ref x), l2, l3, l4, l5, l6, l7] [v0] m Q ↔ AW d 54 27 [l0, some (.ref x), l2, l3, l4, l5, l6, l7] [.ref x, v0] m Q := A_aload_n hB_X5_passMinute dX5_passMinute_26 rfl
theorem tX5_passMinute_26q {d : Nat} {l0 l2 l3 l4 l5 l6 l7 : Option Value} {v0 : Value} {x : Option Nat} {m : jmM} {Q : Option Value → jmM → Prop} : AW d 54 26 [l0, some (va_rf x), l2, l3, l4, l5, l6, l7] [v0] m Q ↔ AW d 54 27 [l0, some (va_rf x), l2, l3, l4, l5, l6, l7] [va_rf x, v0] m Q := A_aload_nq hB_X5_passMinute dX5_passMinute_26 rfl
theorem dX5_passMinute_27 : decode cX5_passMinute 27 = .ok (.invokevirtual 122, 3) := by decide +kernel
theorem tX5_passMinute_27 {d : Nat} {l0 l1 l2 l3 l4 l5 l6 l7 : Option Value} {y0 : Value} {a : Nat} {m : jmM} {Q : Option Value → jmM → Prop} : AW d 54 27 [l0, l1, l2, l3, l4, l5, l6, l7] [y0, .ref a] m Q ↔ (mS m a).1 = 5 ∧ CC d 55 [.ref a, y0] m (jK d 54 30 [l0, l1, l2, l3, l4, l5, l6, l7] [] Q) := A_callV hB_X5_passMinute dX5_passMinute_27 hO_X5_passMinute fS_5_122 ⟨Nat.le_of_ble_eq_true rfl, Nat.le_of_ble_eq_true rfl⟩ rfl rfl rfl
theorem dX5_passMinute_30 : decode cX5_passMinute 30 = .ok (.aload_n 1, 1) := by decide +kernel
theorem tX5_passMinute_30 {d : Nat} {l0 l2 l3 l4 l5 l6 l7 : Option Value} {x : Nat} {m : jmM} {Q : Option Value → jmM → Prop} : AW d 54 30 [l0, some (.ref x), l2, l3, l4, l5, l6, l7] [] m Q ↔ AW d 54 31 [l0, some (.ref x), l2, l3, l4, l5, l6, l7] [.ref x] m Q := A_aload_n hB_X5_passMinute dX5_passMinute_30 rfl
theorem tX5_passMinute_30q {d : Nat} {l0 l2 l3 l4 l5 l6 l7 : Option Value} {x : Option Nat} {m : jmM} {Q : Option Value → jmM → Prop} : AW d 54 30 [l0, some (va_rf x), l2, l3, l4, l5, l6, l7] [] m Q ↔ AW d 54 31 [l0, some (va_rf x), l2, l3, l4, l5, l6, l7] [va_rf x] m Q := A_aload_nq hB_X5_passMinute dX5_passMinute_30 rfl
theorem dX5_passMinute_31 : decode cX5_passMinute 31 = .ok (.aload_n 0, 1) := by decide +kernel
theorem tX5_passMinute_31 {d : Nat} {l1 l2 l3 l4 l5 l6 l7 : Option Value} {v0 : Value} {x : Nat} {m : jmM} {Q : Option Value → jmM → Prop} : AW d 54 31 [some (.ref x), l1, l2, l3, l4, l5, l6, l7] [v0] m Q ↔ AW d 54 32 [some (.ref x), l1, l2, l3, l4, l5, l6, l7] [.ref x, v0] m Q := A_aload_n hB_X5_passMinute dX5_passMinute_31 rfl
theorem dX5_passMinute_32 : decode cX5_passMinute 32 = .ok (.getfield 22, 3) := by decide +kernel
theorem tX5_passMinute_32 {d : Nat} {l0 l1 l2 l3 l4 l5 l6 l7 : Option Value} {v1 : Value} {a : Nat} {m : jmM} {Q : Option Value → jmM → Prop} : AW d 54 32 [l0, l1, l2, l3, l4, l5, l6, l7] [.ref a, v1] m Q ↔ (mS m a).1 = 5 ∧ AW d 54 35 [l0, l1, l2, l3, l4, l5, l6, l7] [va_rf (mR m a 2), v1] m Q := A_getfield (f := fun m a => va_rf (mR m a 2)) hB_X5_passMinute dX5_passMinute_32 hO_X5_passMinute fF_5_22 rfl
theorem dX5_passMinute_35 : decode cX5_passMinute 35 = .ok (.iconst 1, 1) := by decide +kernel
theorem tX5_passMinute_35 {d : Nat} {l0 l1 l2 l3 l4 l5 l6 l7 : Option Value} {v0 v1 : Value} {m : jmM} {Q : Option Value → jmM → Prop} : AW d 54 35 [l0, l1, l2, l3, l4, l5, l6, l7] [v0, v1] m Q ↔ AW d 54 36 [l0, l1, l2, l3, l4, l5, l6, l7] [.int 1, v0, v1] m Q := A_iconst hB_X5_passMinute dX5_passMinute_35 (by decide)
theorem dX5_passMinute_36 : decode cX5_passMinute 36 = .ok (.aload_n 0, 1) := by decide +kernel
theorem tX5_passMinute_36 {d : Nat} {l1 l2 l3 l4 l5 l6 l7 : Option Value} {v0 v1 v2 : Value} {x : Nat} {m : jmM} {Q : Option Value → jmM → Prop} : AW d 54 36 [some (.ref x), l1, l2, l3, l4, l5, l6, l7] [v0, v1, v2] m Q ↔ AW d 54 37 [some (.ref x), l1, l2, l3, l4, l5, l6, l7] [.ref x, v0, v1, v2] m Q := A_aload_n hB_X5_passMinute dX5_passMinute_36 rfl
theorem dX5_passMinute_37 : decode cX5_passMinute 37 = .ok (.getfield 42, 3) := by decide +kernel
theorem tX5_passMinute_37 {d : Nat} {l0 l1 l2 l3 l4 l5 l6 l7 : Option Value} {v1 v2 v3 : Value} {a : Nat} {m : jmM} {Q : Option Value → jmM → Prop} : AW d 54 37 [l0, l1, l2, l3, l4, l5, l6, l7] [.ref a, v1, v2, v3] m Q ↔ (mS m a).1 = 5 ∧ AW d 54 40 [l0, l1, l2, l3, l4, l5, l6, l7] [.int (mI m a 8), v1, v2, v3] m Q := A_getfield (f := fun m a => .int (mI m a 8)) hB_X5_passMinute dX5_passMinute_37 hO_X5_passMinute fF_5_42 rfl
theorem dX5_passMinute_40 : decode cX5_passMinute 40 = .ok (.i2l, 1) := by decide +kernel
theorem tX5_passMinute_40 {d : Nat} {l0 l1 l2 l3 l4 l5 l6 l7 : Option Value} {v1 v2 v3 : Value} {x : Int32} {m : jmM} {Q : Option Value → jmM → Prop} : AW d 54 40 [l0, l1, l2, l3, l4, l5, l6, l7] [.int x, v1, v2, v3] m Q ↔ AW d 54 41 [l0, l1, l2, l3, l4, l5, l6, l7] [.long x.toInt64, v1, v2, v3] m Q := A_i2l hB_X5_passMinute dX5_passMinute_40
theorem dX5_passMinute_41 : decode cX5_passMinute 41 = .ok (.invokevirtual 125, 3) := by decide +kernel
theorem tX5_passMinute_41 {d : Nat} {l0 l1 l2 l3 l4 l5 l6 l7 : Option Value} {y0 y1 y2 : Value} {a : Nat} {m : jmM} {Q : Option Value → jmM → Prop} : AW d 54 41 [l0, l1, l2, l3, l4, l5, l6, l7] [y0, y1, y2, .ref a] m Q ↔ (mS m a).1 = 1 ∧ CC d 12 [.ref a, y2, y1, y0] m (jK d 54 44 [l0, l1, l2, l3, l4, l5, l6, l7] [] Q) := A_callV hB_X5_passMinute dX5_passMinute_41 hO_X5_passMinute fS_5_125 ⟨Nat.le_of_ble_eq_true rfl, Nat.le_of_ble_eq_true rfl⟩ rfl rfl rfl
theorem dX5_passMinute_44 : decode cX5_passMinute 44 = .ok (.lstore_n 2, 1) := by decide +kernel
theorem tX5_passMinute_44 {d : Nat} {l0 l1 l2 l3 l4 l5 l6 l7 : Option Value} {x : Int64} {m : jmM} {Q : Option Value → jmM → Prop} : AW d 54 44 [l0, l1, l2, l3, l4, l5, l6, l7] [.long x] m Q ↔ AW d 54 45 [l0, jc1 l1, some (.long x), none, l4, l5, l6, l7] [] m Q := A_lstore_n hB_X5_passMinute dX5_passMinute_44 (Nat.le_of_ble_eq_true rfl) rfl
theorem dX5_passMinute_45 : decode cX5_passMinute 45 = .ok (.aload_n 1, 1) := by decide +kernel
theorem tX5_passMinute_45 {d : Nat} {l0 l2 l3 l4 l5 l6 l7 : Option Value} {x : Nat} {m : jmM} {Q : Option Value → jmM → Prop} : AW d 54 45 [l0, some (.ref x), l2, l3, l4, l5, l6, l7] [] m Q ↔ AW d 54 46 [l0, some (.ref x), l2, l3, l4, l5, l6, l7] [.ref x] m Q := A_aload_n hB_X5_passMinute dX5_passMinute_45 rfl
theorem tX5_passMinute_45q {d : Nat} {l0 l2 l3 l4 l5 l6 l7 : Option Value} {x : Option Nat} {m : jmM} {Q : Option Value → jmM → Prop} : AW d 54 45 [l0, some (va_rf x), l2, l3, l4, l5, l6, l7] [] m Q ↔ AW d 54 46 [l0, some (va_rf x), l2, l3, l4, l5, l6, l7] [va_rf x] m Q := A_aload_nq hB_X5_passMinute dX5_passMinute_45 rfl
theorem dX5_passMinute_46 : decode cX5_passMinute 46 = .ok (.aload_n 0, 1) := by decide +kernel
theorem tX5_passMinute_46 {d : Nat} {l1 l2 l3 l4 l5 l6 l7 : Option Value} {v0 : Value} {x : Nat} {m : jmM} {Q : Option Value → jmM → Prop} : AW d 54 46 [some (.ref x), l1, l2, l3, l4, l5, l6, l7] [v0] m Q ↔ AW d 54 47 [some (.ref x), l1, l2, l3, l4, l5, l6, l7] [.ref x, v0] m Q := A_aload_n hB_X5_passMinute dX5_passMinute_46 rfl
theorem dX5_passMinute_47 : decode cX5_passMinute 47 = .ok (.getfield 22, 3) := by decide +kernel
theorem tX5_passMinute_47 {d : Nat} {l0 l1 l2 l3 l4 l5 l6 l7 : Option Value} {v1 : Value} {a : Nat} {m : jmM} {Q : Option Value → jmM → Prop} : AW d 54 47 [l0, l1, l2, l3, l4, l5, l6, l7] [.ref a, v1] m Q ↔ (mS m a).1 = 5 ∧ AW d 54 50 [l0, l1, l2, l3, l4, l5, l6, l7] [va_rf (mR m a 2), v1] m Q := A_getfield (f := fun m a => va_rf (mR m a 2)) hB_X5_passMinute dX5_passMinute_47 hO_X5_passMinute fF_5_22 rfl
theorem dX5_passMinute_50 : decode cX5_passMinute 50 = .ok (.iconst 2, 1) := by decide +kernel
theorem tX5_passMinute_50 {d : Nat} {l0 l1 l2 l3 l4 l5 l6 l7 : Option Value} {v0 v1 : Value} {m : jmM} {Q : Option Value → jmM → Prop} : AW d 54 50 [l0, l1, l2, l3, l4, l5, l6, l7] [v0, v1] m Q ↔ AW d 54 51 [l0, l1, l2, l3, l4, l5, l6, l7] [.int 2, v0, v1] m Q := A_iconst hB_X5_passMinute dX5_passMinute_50 (by decide)
theorem dX5_passMinute_51 : decode cX5_passMinute 51 = .ok (.aload_n 0, 1) := by decide +kernel
theorem tX5_passMinute_51 {d : Nat} {l1 l2 l3 l4 l5 l6 l7 : Option Value} {v0 v1 v2 : Value} {x : Nat} {m : jmM} {Q : Option Value → jmM → Prop} : AW d 54 51 [some (.ref x), l1, l2, l3, l4, l5, l6, l7] [v0, v1, v2] m Q ↔ AW d 54 52 [some (.ref x), l1, l2, l3, l4, l5, l6, l7] [.ref x, v0, v1, v2] m Q := A_aload_n hB_X5_passMinute dX5_passMinute_51 rfl
theorem dX5_passMinute_52 : decode cX5_passMinute 52 = .ok (.getfield 39, 3) := by decide +kernel
theorem tX5_passMinute_52 {d : Nat} {l0 l1 l2 l3 l4 l5 l6 l7 : Option Value} {v1 v2 v3 : Value} {a : Nat} {m : jmM} {Q : Option Value → jmM → Prop} : AW d 54 52 [l0, l1, l2, l3, l4, l5, l6, l7] [.ref a, v1, v2, v3] m Q ↔ (mS m a).1 = 5 ∧ AW d 54 55 [l0, l1, l2, l3, l4, l5, l6, l7] [.int (mI m a 7), v1, v2, v3] m Q := A_getfield (f := fun m a => .int (mI m a 7)) hB_X5_passMinute dX5_passMinute_52 hO_X5_passMinute fF_5_39 rfl
theorem dX5_passMinute_55 : decode cX5_passMinute 55 = .ok (.i2l, 1) := by decide +kernel
theorem tX5_passMinute_55 {d : Nat} {l0 l1 l2 l3 l4 l5 l6 l7 : Option Value} {v1 v2 v3 : Value} {x : Int32} {m : jmM} {Q : Option Value → jmM → Prop} : AW d 54 55 [l0, l1, l2, l3, l4, l5, l6, l7] [.int x, v1, v2, v3] m Q ↔ AW d 54 56 [l0, l1, l2, l3, l4, l5, l6, l7] [.long x.toInt64, v1, v2, v3] m Q := A_i2l hB_X5_passMinute dX5_passMinute_55
theorem dX5_passMinute_56 : decode cX5_passMinute 56 = .ok (.invokevirtual 125, 3) := by decide +kernel
theorem tX5_passMinute_56 {d : Nat} {l0 l1 l2 l3 l4 l5 l6 l7 : Option Value} {y0 y1 y2 : Value} {a : Nat} {m : jmM} {Q : Option Value → jmM → Prop} : AW d 54 56 [l0, l1, l2, l3, l4, l5, l6, l7] [y0, y1, y2, .ref a] m Q ↔ (mS m a).1 = 1 ∧ CC d 12 [.ref a, y2, y1, y0] m (jK d 54 59 [l0, l1, l2, l3, l4, l5, l6, l7] [] Q) := A_callV hB_X5_passMinute dX5_passMinute_56 hO_X5_passMinute fS_5_125 ⟨Nat.le_of_ble_eq_true rfl, Nat.le_of_ble_eq_true rfl⟩ rfl rfl rfl
theorem dX5_passMinute_59 : decode cX5_passMinute 59 = .ok (.lstore 4, 2) := by decide +kernel
theorem tX5_passMinute_59 {d : Nat} {l0 l1 l2 l3 l4 l5 l6 l7 : Option Value} {x : Int64} {m : jmM} {Q : Option Value → jmM → Prop} : AW d 54 59 [l0, l1, l2, l3, l4, l5, l6, l7] [.long x] m Q ↔ AW d 54 61 [l0, l1, l2, jc1 l3, some (.long x), none, l6, l7] [] m Q := A_lstore hB_X5_passMinute dX5_passMinute_59 (Nat.le_of_ble_eq_true rfl) rfl
theorem dX5_passMinute_61 : decode cX5_passMinute 61 = .ok (.aload_n 0, 1) := by decide +kernel
theorem tX5_passMinute_61 {d : Nat} {l1 l2 l3 l4 l5 l6 l7 : Option Value} {x : Nat} {m : jmM} {Q : Option Value → jmM → Prop} : AW d 54 61 [some (.ref x), l1, l2, l3, l4, l5, l6, l7] [] m Q ↔ AW d 54 62 [some (.ref x), l1, l2, l3, l4, l5, l6, l7] [.ref x] m Q := A_aload_n hB_X5_passMinute dX5_passMinute_61 rfl
theorem dX5_passMinute_62 : decode cX5_passMinute 62 = .ok (.lload_n 2, 1) := by decide +kernel
theorem tX5_passMinute_62 {d : Nat} {l0 l1 l3 l4 l5 l6 l7 : Option Value} {v0 : Value} {x : Int64} {m : jmM} {Q : Option Value → jmM → Prop} : AW d 54 62 [l0, l1, some (.long x), l3, l4, l5, l6, l7] [v0] m Q ↔ AW d 54 63 [l0, l1, some (.long x), l3, l4, l5, l6, l7] [.long x, v0] m Q := A_lload_n hB_X5_passMinute dX5_passMinute_62 rfl
theorem dX5_passMinute_63 : decode cX5_passMinute 63 = .ok (.lconst 0, 1) := by decide +kernel
theorem tX5_passMinute_63 {d : Nat} {l0 l1 l2 l3 l4 l5 l6 l7 : Option Value} {v0 v1 : Value} {m : jmM} {Q : Option Value → jmM → Prop} : AW d 54 63 [l0, l1, l2, l3, l4, l5, l6, l7] [v0, v1] m Q ↔ AW d 54 64 [l0, l1, l2, l3, l4, l5, l6, l7] [.long 0, v0, v1] m Q := A_lconst hB_X5_passMinute dX5_passMinute_63 (by decide)
theorem dX5_passMinute_64 : decode cX5_passMinute 64 = .ok (.ldc2_w 131, 3) := by decide +kernel
theorem tX5_passMinute_64 {d : Nat} {l0 l1 l2 l3 l4 l5 l6 l7 : Option Value} {v0 v1 v2 : Value} {m : jmM} {Q : Option Value → jmM → Prop} : AW d 54 64 [l0, l1, l2, l3, l4, l5, l6, l7] [v0, v1, v2] m Q ↔ AW d 54 67 [l0, l1, l2, l3, l4, l5, l6, l7] [.long 99, v0, v1, v2] m Q := A_ldc2_w hB_X5_passMinute dX5_passMinute_64 hO_X5_passMinute fL2_5_131
theorem dX5_passMinute_67 : decode cX5_passMinute 67 = .ok (.invokestatic 114, 3) := by decide +kernel
theorem tX5_passMinute_67 {d : Nat} {l0 l1 l2 l3 l4 l5 l6 l7 : Option Value} {v3 : Value} {y0 y1 y2 : Value} {m : jmM} {Q : Option Value → jmM → Prop} : AW d 54 67 [l0, l1, l2, l3, l4, l5, l6, l7] [y0, y1, y2, v3] m Q ↔ CC d 185 [y2, y1, y0] m (jK d 54 70 [l0, l1, l2, l3, l4, l5, l6, l7] [v3] Q) := A_callS4 hB_X5_passMinute dX5_passMinute_67 hO_X5_passMinute fS_5_114 ⟨Nat.le_of_ble_eq_true rfl, Nat.le_of_ble_eq_true rfl⟩ rfl rfl
theorem dX5_passMinute_70 : decode cX5_passMinute 70 = .ok (.l2i, 1) := by decide +kernel
theorem tX5_passMinute_70 {d : Nat} {l0 l1 l2 l3 l4 l5 l6 l7 : Option Value} {v1 : Value} {x : Int64} {m : jmM} {Q : Option Value → jmM → Prop} : AW d 54 70 [l0, l1, l2, l3, l4, l5, l6, l7] [.long x, v1] m Q ↔ AW d 54 71 [l0, l1, l2, l3, l4, l5, l6, l7] [.int x.toInt32, v1] m Q := A_l2i hB_X5_passMinute dX5_passMinute_70
theorem dX5_passMinute_71 : decode cX5_passMinute 71 = .ok (.putfield 42, 3) := by decide +kernel
theorem tX5_passMinute_71 {d : Nat} {l0 l1 l2 l3 l4 l5 l6 l7 : Option Value} {x : Int32} {a : Nat} {m : jmM} {Q : Option Value → jmM → Prop} : AW d 54 71 [l0, l1, l2, l3, l4, l5, l6, l7] [.int x, .ref a] m Q ↔ (mS m a).1 = 5 ∧ AW d 54 74 [l0, l1, l2, l3, l4, l5, l6, l7] [] (cI m a (jup (mI m a) 8 x)) Q := A_putI hB_X5_passMinute dX5_passMinute_71 hO_X5_passMinute fF_5_42 rfl (fun h => Bool.noConfusion h)
theorem dX5_passMinute_74 : decode cX5_passMinute 74 = .ok (.aload_n 0, 1) := by decide +kernel
theorem tX5_passMinute_74 {d : Nat} {l1 l2 l3 l4 l5 l6 l7 : Option Value} {x : Nat} {m : jmM} {Q : Option Value → jmM → Prop} : AW d 54 74 [some (.ref x), l1, l2, l3, l4, l5, l6, l7] [] m Q ↔ AW d 54 75 [some (.ref x), l1, l2, l3, l4, l5, l6, l7] [.ref x] m Q := A_aload_n hB_X5_passMinute dX5_passMinute_74 rfl
theorem dX5_passMinute_75 : decode cX5_passMinute 75 = .ok (.lload 4, 2) := by decide +kernel
theorem tX5_passMinute_75 {d : Nat} {l0 l1 l2 l3 l5 l6 l7 : Option Value} {v0 : Value} {x : Int64} {m : jmM} {Q : Option Value → jmM → Prop} : AW d 54 75 [l0, l1, l2, l3, some (.long x), l5, l6, l7] [v0] m Q ↔ AW d 54 77 [l0, l1, l2, l3, some (.long x), l5, l6, l7] [.long x, v0] m Q := A_lload hB_X5_passMinute dX5_passMinute_75 rfl
theorem dX5_passMinute_77 : decode cX5_passMinute 77 = .ok (.lconst 0, 1) := by decide +kernel
theorem tX5_passMinute_77 {d : Nat} {l0 l1 l2 l3 l4 l5 l6 l7 : Option Value} {v0 v1 : Value} {m : jmM} {Q : Option Value → jmM → Prop} : AW d 54 77 [l0, l1, l2, l3, l4, l5, l6, l7] [v0, v1] m Q ↔ AW d 54 78 [l0, l1, l2, l3, l4, l5, l6, l7] [.long 0, v0, v1] m Q := A_lconst hB_X5_passMinute dX5_passMinute_77 (by decide)
theorem dX5_passMinute_78 : decode cX5_passMinute 78 = .ok (.ldc2_w 133, 3) := by decide +kernel
theorem tX5_passMinute_78 {d : Nat} {l0 l1 l2 l3 l4 l5 l6 l7 : Option Value} {v0 v1 v2 : Value} {m : jmM} {Q : Option Value → jmM → Prop} : AW d 54 78 [l0, l1, l2, l3, l4, l5, l6, l7] [v0, v1, v2] m Q ↔ AW d 54 81 [l0, l1, l2, l3, l4, l5, l6, l7] [.long 999, v0, v1, v2] m Q := A_ldc2_w hB_X5_passMinute dX5_passMinute_78 hO_X5_passMinute fL2_5_133
theorem dX5_passMinute_81 : decode cX5_passMinute 81 = .ok (.invokestatic 114, 3) := by decide +kernel
theorem tX5_passMinute_81 {d : Nat} {l0 l1 l2 l3 l4 l5 l6 l7 : Option Value} {v3 : Value} {y0 y1 y2 : Value} {m : jmM} {Q : Option Value → jmM → Prop} : AW d 54 81 [l0, l1, l2, l3, l4, l5, l6, l7] [y0, y1, y2, v3] m Q ↔ CC d 185 [y2, y1, y0] m (jK d 54 84 [l0, l1, l2, l3, l4, l5, l6, l7] [v3] Q) := A_callS4 hB_X5_passMinute dX5_passMinute_81 hO_X5_passMinute fS_5_114 ⟨Nat.le_of_ble_eq_true rfl, Nat.le_of_ble_eq_true rfl⟩ rfl rfl
theorem dX5_passMinute_84 : decode cX5_passMinute 84 = .ok (.l2i, 1) := by decide +kernel
theorem tX5_passMinute_84 {d : Nat} {l0 l1 l2 l3 l4 l5 l6 l7 : Option Value} {v1 : Value} {x : Int64} {m : jmM} {Q : Option Value → jmM → Prop} : AW d 54 84 [l0, l1, l2, l3, l4, l5, l6, l7] [.long x, v1] m Q ↔ AW d 54 85 [l0, l1, l2, l3, l4, l5, l6, l7] [.int x.toInt32, v1] m Q := A_l2i hB_X5_passMinute dX5_passMinute_84
theorem dX5_passMinute_85 : decode cX5_passMinute 85 = .ok (.putfield 39, 3) := by decide +kernel
theorem tX5_passMinute_85 {d : Nat} {l0 l1 l2 l3 l4 l5 l6 l7 : Option Value} {x : Int32} {a : Nat} {m : jmM} {Q : Option Value → jmM → Prop} : AW d 54 85 [l0, l1, l2, l3, l4, l5, l6, l7] [.int x, .ref a] m Q ↔ (mS m a).1 = 5 ∧ AW d 54 88 [l0, l1, l2, l3, l4, l5, l6, l7] [] (cI m a (jup (mI m a) 7 x)) Q := A_putI hB_X5_passMinute dX5_passMinute_85 hO_X5_passMinute fF_5_39 rfl (fun h => Bool.noConfusion h)
theorem dX5_passMinute_88 : decode cX5_passMinute 88 = .ok (.aload_n 1, 1) := by decide +kernel
theorem tX5_passMinute_88 {d : Nat} {l0 l2 l3 l4 l5 l6 l7 : Option Value} {x : Nat} {m : jmM} {Q : Option Value → jmM → Prop} : AW d 54 88 [l0, some (.ref x), l2, l3, l4, l5, l6, l7] [] m Q ↔ AW d 54 89 [l0, some (.ref x), l2, l3, l4, l5, l6, l7] [.ref x] m Q := A_aload_n hB_X5_passMinute dX5_passMinute_88 rfl
theorem tX5_passMinute_88q {d : Nat} {l0 l2 l3 l4 l5 l6 l7 : Option Value} {x : Option Nat} {m : jmM} {Q : Option Value → jmM → Prop} : AW d 54 88 [l0, some (va_rf x), l2, l3, l4, l5, l6, l7] [] m Q ↔ AW d 54 89 [l0, some (va_rf x), l2, l3, l4, l5, l6, l7] [va_rf x] m Q := A_aload_nq hB_X5_passMinute dX5_passMinute_88 rfl
theorem dX5_passMinute_89 : decode cX5_passMinute 89 = .ok (.iconst 4, 1) := by decide +kernel
theorem tX5_passMinute_89 {d : Nat} {l0 l1 l2 l3 l4 l5 l6 l7 : Option Value} {v0 : Value} {m : jmM} {Q : Option Value → jmM → Prop} : AW d 54 89 [l0, l1, l2, l3, l4, l5, l6, l7] [v0] m Q ↔ AW d 54 90 [l0, l1, l2, l3, l4, l5, l6, l7] [.int 4, v0] m Q := A_iconst hB_X5_passMinute dX5_passMinute_89 (by decide)
theorem dX5_passMinute_90 : decode cX5_passMinute 90 = .ok (.aload_n 0, 1) := by decide +kernel
theorem tX5_passMinute_90 {d : Nat} {l1 l2 l3 l4 l5 l6 l7 : Option Value} {v0 v1 : Value} {x : Nat} {m : jmM} {Q : Option Value → jmM → Prop} : AW d 54 90 [some (.ref x), l1, l2, l3, l4, l5, l6, l7] [v0, v1] m Q ↔ AW d 54 91 [some (.ref x), l1, l2, l3, l4, l5, l6, l7] [.ref x, v0, v1] m Q := A_aload_n hB_X5_passMinute dX5_passMinute_90 rfl
theorem dX5_passMinute_91 : decode cX5_passMinute 91 = .ok (.getfield 39, 3) := by decide +kernel
theorem tX5_passMinute_91 {d : Nat} {l0 l1 l2 l3 l4 l5 l6 l7 : Option Value} {v1 v2 : Value} {a : Nat} {m : jmM} {Q : Option Value → jmM → Prop} : AW d 54 91 [l0, l1, l2, l3, l4, l5, l6, l7] [.ref a, v1, v2] m Q ↔ (mS m a).1 = 5 ∧ AW d 54 94 [l0, l1, l2, l3, l4, l5, l6, l7] [.int (mI m a 7), v1, v2] m Q := A_getfield (f := fun m a => .int (mI m a 7)) hB_X5_passMinute dX5_passMinute_91 hO_X5_passMinute fF_5_39 rfl
theorem dX5_passMinute_94 : decode cX5_passMinute 94 = .ok (.i2l, 1) := by decide +kernel
theorem tX5_passMinute_94 {d : Nat} {l0 l1 l2 l3 l4 l5 l6 l7 : Option Value} {v1 v2 : Value} {x : Int32} {m : jmM} {Q : Option Value → jmM → Prop} : AW d 54 94 [l0, l1, l2, l3, l4, l5, l6, l7] [.int x, v1, v2] m Q ↔ AW d 54 95 [l0, l1, l2, l3, l4, l5, l6, l7] [.long x.toInt64, v1, v2] m Q := A_i2l hB_X5_passMinute dX5_passMinute_94
theorem dX5_passMinute_95 : decode cX5_passMinute 95 = .ok (.invokevirtual 135, 3) := by decide +kernel
theorem tX5_passMinute_95 {d : Nat} {l0 l1 l2 l3 l4 l5 l6 l7 : Option Value} {y0 y1 : Value} {a : Nat} {m : jmM} {Q : Option Value → jmM → Prop} : AW d 54 95 [l0, l1, l2, l3, l4, l5, l6, l7] [y0, y1, .ref a] m Q ↔ (mS m a).1 = 1 ∧ CC d 11 [.ref a, y1, y0] m (jK d 54 98 [l0, l1, l2, l3, l4, l5, l6, l7] [] Q) := A_callV hB_X5_passMinute dX5_passMinute_95 hO_X5_passMinute fS_5_135 ⟨Nat.le_of_ble_eq_true rfl, Nat.le_of_ble_eq_true rfl⟩ rfl rfl rfl
theorem dX5_passMinute_98 : decode cX5_passMinute 98 = .ok (.aload_n 1, 1) := by decide +kernel
theorem tX5_passMinute_98 {d : Nat} {l0 l2 l3 l4 l5 l6 l7 : Option Value} {x : Nat} {m : jmM} {Q : Option Value → jmM → Prop} : AW d 54 98 [l0, some (.ref x), l2, l3, l4, l5, l6, l7] [] m Q ↔ AW d 54 99 [l0, some (.ref x), l2, l3, l4, l5, l6, l7] [.ref x] m Q := A_aload_n hB_X5_passMinute dX5_passMinute_98 rfl
theorem tX5_passMinute_98q {d : Nat} {l0 l2 l3 l4 l5 l6 l7 : Option Value} {x : Option Nat} {m : jmM} {Q : Option Value → jmM → Prop} : AW d 54 98 [l0, some (va_rf x), l2, l3, l4, l5, l6, l7] [] m Q ↔ AW d 54 99 [l0, some (va_rf x), l2, l3, l4, l5, l6, l7] [va_rf x] m Q := A_aload_nq hB_X5_passMinute dX5_passMinute_98 rfl
theorem dX5_passMinute_99 : decode cX5_passMinute 99 = .ok (.iconst 5, 1) := by decide +kernel
theorem tX5_passMinute_99 {d : Nat} {l0 l1 l2 l3 l4 l5 l6 l7 : Option Value} {v0 : Value} {m : jmM} {Q : Option Value → jmM → Prop} : AW d 54 99 [l0, l1, l2, l3, l4, l5, l6, l7] [v0] m Q ↔ AW d 54 100 [l0, l1, l2, l3, l4, l5, l6, l7] [.int 5, v0] m Q := A_iconst hB_X5_passMinute dX5_passMinute_99 (by decide)
theorem dX5_passMinute_100 : decode cX5_passMinute 100 = .ok (.aload_n 0, 1) := by decide +kernel
theorem tX5_passMinute_100 {d : Nat} {l1 l2 l3 l4 l5 l6 l7 : Option Value} {v0 v1 : Value} {x : Nat} {m : jmM} {Q : Option Value → jmM → Prop} : AW d 54 100 [some (.ref x), l1, l2, l3, l4, l5, l6, l7] [v0, v1] m Q ↔ AW d 54 101 [some (.ref x), l1, l2, l3, l4, l5, l6, l7] [.ref x, v0, v1] m Q := A_aload_n hB_X5_passMinute dX5_passMinute_100 rfl
theorem dX5_passMinute_101 : decode cX5_passMinute 101 = .ok (.getfield 42, 3) := by decide +kernel
theorem tX5_passMinute_101 {d : Nat} {l0 l1 l2 l3 l4 l5 l6 l7 : Option Value} {v1 v2 : Value} {a : Nat} {m : jmM} {Q : Option Value → jmM → Prop} : AW d 54 101 [l0, l1, l2, l3, l4, l5, l6, l7] [.ref a, v1, v2] m Q ↔ (mS m a).1 = 5 ∧ AW d 54 104 [l0, l1, l2, l3, l4, l5, l6, l7] [.int (mI m a 8), v1, v2] m Q := A_getfield (f := fun m a => .int (mI m a 8)) hB_X5_passMinute dX5_passMinute_101 hO_X5_passMinute fF_5_42 rfl
theorem dX5_passMinute_104 : decode cX5_passMinute 104 = .ok (.i2l, 1) := by decide +kernel
theorem tX5_passMinute_104 {d : Nat} {l0 l1 l2 l3 l4 l5 l6 l7 : Option Value} {v1 v2 : Value} {x : Int32} {m : jmM} {Q : Option Value → jmM → Prop} : AW d 54 104 [l0, l1, l2, l3, l4, l5, l6, l7] [.int x, v1, v2] m Q ↔ AW d 54 105 [l0, l1, l2, l3, l4, l5, l6, l7] [.long x.toInt64, v1, v2] m Q := A_i2l hB_X5_passMinute dX5_passMinute_104
theorem dX5_passMinute_105 : decode cX5_passMinute 105 = .ok (.invokevirtual 135, 3) := by decide +kernel
theorem tX5_passMinute_105 {d : Nat} {l0 l1 l2 l3 l4 l5 l6 l7 : Option Value} {y0 y1 : Value} {a : Nat} {m : jmM} {Q : Option Value → jmM → Prop} : AW d 54 105 [l0, l1, l2, l3, l4, l5, l6, l7] [y0, y1, .ref a] m Q ↔ (mS m a).1 = 1 ∧ CC d 11 [.ref a, y1, y0] m (jK d 54 108 [l0, l1, l2, l3, l4, l5, l6, l7] [] Q) := A_callV hB_X5_passMinute dX5_passMinute_105 hO_X5_passMinute fS_5_135 ⟨Nat.le_of_ble_eq_true rfl, Nat.le_of_ble_eq_true rfl⟩ rfl rfl rfl
theorem dX5_passMinute_108 : decode cX5_passMinute 108 = .ok (.aload_n 1, 1) := by decide +kernel
theorem tX5_passMinute_108 {d : Nat} {l0 l2 l3 l4 l5 l6 l7 : Option Value} {x : Nat} {m : jmM} {Q : Option Value → jmM → Prop} : AW d 54 108 [l0, some (.ref x), l2, l3, l4, l5, l6, l7] [] m Q ↔ AW d 54 109 [l0, some (.ref x), l2, l3, l4, l5, l6, l7] [.ref x] m Q := A_aload_n hB_X5_passMinute dX5_passMinute_108 rfl
theorem tX5_passMinute_108q {d : Nat} {l0 l2 l3 l4 l5 l6 l7 : Option Value} {x : Option Nat} {m : jmM} {Q : Option Value → jmM → Prop} : AW d 54 108 [l0, some (va_rf x), l2, l3, l4, l5, l6, l7] [] m Q ↔ AW d 54 109 [l0, some (va_rf x), l2, l3, l4, l5, l6, l7] [va_rf x] m Q := A_aload_nq hB_X5_passMinute dX5_passMinute_108 rfl
theorem dX5_passMinute_109 : decode cX5_passMinute 109 = .ok (.aload_n 0, 1) := by decide +kernel
theorem tX5_passMinute_109 {d : Nat} {l1 l2 l3 l4 l5 l6 l7 : Option Value} {v0 : Value} {x : Nat} {m : jmM} {Q : Option Value → jmM → Prop} : AW d 54 109 [some (.ref x), l1, l2, l3, l4, l5, l6, l7] [v0] m Q ↔ AW d 54 110 [some (.ref x), l1, l2, l3, l4, l5, l6, l7] [.ref x, v0] m Q := A_aload_n hB_X5_passMinute dX5_passMinute_109 rfl
theorem dX5_passMinute_110 : decode cX5_passMinute 110 = .ok (.getfield 18, 3) := by decide +kernel
theorem tX5_passMinute_110 {d : Nat} {l0 l1 l2 l3 l4 l5 l6 l7 : Option Value} {v1 : Value} {a : Nat} {m : jmM} {Q : Option Value → jmM → Prop} : AW d 54 110 [l0, l1, l2, l3, l4, l5, l6, l7] [.ref a, v1] m Q ↔ (mS m a).1 = 5 ∧ AW d 54 113 [l0, l1, l2, l3, l4, l5, l6, l7] [va_rf (mR m a 1), v1] m Q := A_getfield (f := fun m a => va_rf (mR m a 1)) hB_X5_passMinute dX5_passMinute_110 hO_X5_passMinute fF_5_18 rfl
theorem dX5_passMinute_113 : decode cX5_passMinute 113 = .ok (.iconst 0, 1) := by decide +kernel
theorem tX5_passMinute_113 {d : Nat} {l0 l1 l2 l3 l4 l5 l6 l7 : Option Value} {v0 v1 : Value} {m : jmM} {Q : Option Value → jmM → Prop} : AW d 54 113 [l0, l1, l2, l3, l4, l5, l6, l7] [v0, v1] m Q ↔ AW d 54 114 [l0, l1, l2, l3, l4, l5, l6, l7] [.int 0, v0, v1] m Q := A_iconst hB_X5_passMinute dX5_passMinute_113 (by decide)
theorem dX5_passMinute_114 : decode cX5_passMinute 114 = .ok (.lconst 0, 1) := by decide +kernel
theorem tX5_passMinute_114 {d : Nat} {l0 l1 l2 l3 l4 l5 l6 l7 : Option Value} {v0 v1 v2 : Value} {m : jmM} {Q : Option Value → jmM → Prop} : AW d 54 114 [l0, l1, l2, l3, l4, l5, l6, l7] [v0, v1, v2] m Q ↔ AW d 54 115 [l0, l1, l2, l3, l4, l5, l6, l7] [.long 0, v0, v1, v2] m Q := A_lconst hB_X5_passMinute dX5_passMinute_114 (by decide)
theorem dX5_passMinute_115 : decode cX5_passMinute 115 = .ok (.invokevirtual 125, 3) := by decide +kernel
theorem tX5_passMinute_115 {d : Nat} {l0 l1 l2 l3 l4 l5 l6 l7 : Option Value} {y0 y1 y2 : Value} {a : Nat} {m : jmM} {Q : Option Value → jmM → Prop} : AW d 54 115 [l0, l1, l2, l3, l4, l5, l6, l7] [y0, y1, y2, .ref a] m Q ↔ (mS m a).1 = 1 ∧ CC d 12 [.ref a, y2, y1, y0] m (jK d 54 118 [l0, l1, l2, l3, l4, l5, l6, l7] [] Q) := A_callV hB_X5_passMinute dX5_passMinute_115 hO_X5_passMinute fS_5_125 ⟨Nat.le_of_ble_eq_true rfl, Nat.le_of_ble_eq_true rfl⟩ rfl rfl rfl
theorem dX5_passMinute_118 : decode cX5_passMinute 118 = .ok (.ldc2_w 139, 3) := by decide +kernel
theorem tX5_passMinute_118 {d : Nat} {l0 l1 l2 l3 l4 l5 l6 l7 : Option Value} {v0 : Value} {m : jmM} {Q : Option Value → jmM → Prop} : AW d 54 118 [l0, l1, l2, l3, l4, l5, l6, l7] [v0] m Q ↔ AW d 54 121 [l0, l1, l2, l3, l4, l5, l6, l7] [.long (-9999), v0] m Q := A_ldc2_w hB_X5_passMinute dX5_passMinute_118 hO_X5_passMinute fL2_5_139
theorem dX5_passMinute_121 : decode cX5_passMinute 121 = .ok (.ldc2_w 112, 3) := by decide +kernel
theorem tX5_passMinute_121 {d : Nat} {l0 l1 l2 l3 l4 l5 l6 l7 : Option Value} {v0 v1 : Value} {m : jmM} {Q : Option Value → jmM → Prop} : AW d 54 121 [l0, l1, l2, l3, l4, l5, l6, l7] [v0, v1] m Q ↔ AW d 54 124 [l0, l1, l2, l3, l4, l5, l6, l7] [.long 9999, v0, v1] m Q := A_ldc2_w hB_X5_passMinute dX5_passMinute_121 hO_X5_passMinute fL2_5_112
theorem dX5_passMinute_124 : decode cX5_passMinute 124 = .ok (.invokestatic 114, 3) := by decide +kernel
theorem tX5_passMinute_124 {d : Nat} {l0 l1 l2 l3 l4 l5 l6 l7 : Option Value} {y0 y1 y2 : Value} {m : jmM} {Q : Option Value → jmM → Prop} : AW d 54 124 [l0, l1, l2, l3, l4, l5, l6, l7] [y0, y1, y2] m Q ↔ CC d 185 [y2, y1, y0] m (jK d 54 127 [l0, l1, l2, l3, l4, l5, l6, l7] [] Q) := A_callS4 hB_X5_passMinute dX5_passMinute_124 hO_X5_passMinute fS_5_114 ⟨Nat.le_of_ble_eq_true rfl, Nat.le_of_ble_eq_true rfl⟩ rfl rfl
theorem dX5_passMinute_127 : decode cX5_passMinute 127 = .ok (.lstore 6, 2) := by decide +kernel
theorem tX5_passMinute_127 {d : Nat} {l0 l1 l2 l3 l4 l5 l6 l7 : Option Value} {x : Int64} {m : jmM} {Q : Option Value → jmM → Prop} : AW d 54 127 [l0, l1, l2, l3, l4, l5, l6, l7] [.long x] m Q ↔ AW d 54 129 [l0, l1, l2, l3, l4, jc1 l5, some (.long x), none] [] m Q := A_lstore hB_X5_passMinute dX5_passMinute_127 (Nat.le_of_ble_eq_true rfl) rfl
theorem dX5_passMinute_129 : decode cX5_passMinute 129 = .ok (.aload_n 0, 1) := by decide +kernel
theorem tX5_passMinute_129 {d : Nat} {l1 l2 l3 l4 l5 l6 l7 : Option Value} {x : Nat} {m : jmM} {Q : Option Value → jmM → Prop} : AW d 54 129 [some (.ref x), l1, l2, l3, l4, l5, l6, l7] [] m Q ↔ AW d 54 130 [some (.ref x), l1, l2, l3, l4, l5, l6, l7] [.ref x] m Q := A_aload_n hB_X5_passMinute dX5_passMinute_129 rfl
theorem dX5_passMinute_130 : decode cX5_passMinute 130 = .ok (.aload_n 0, 1) := by decide +kernel
theorem tX5_passMinute_130 {d : Nat} {l1 l2 l3 l4 l5 l6 l7 : Option Value} {v0 : Value} {x : Nat} {m : jmM} {Q : Option Value → jmM → Prop} : AW d 54 130 [some (.ref x), l1, l2, l3, l4, l5, l6, l7] [v0] m Q ↔ AW d 54 131 [some (.ref x), l1, l2, l3, l4, l5, l6, l7] [.ref x, v0] m Q := A_aload_n hB_X5_passMinute dX5_passMinute_130 rfl
theorem dX5_passMinute_131 : decode cX5_passMinute 131 = .ok (.getfield 36, 3) := by decide +kernel
theorem tX5_passMinute_131 {d : Nat} {l0 l1 l2 l3 l4 l5 l6 l7 : Option Value} {v1 : Value} {a : Nat} {m : jmM} {Q : Option Value → jmM → Prop} : AW d 54 131 [l0, l1, l2, l3, l4, l5, l6, l7] [.ref a, v1] m Q ↔ (mS m a).1 = 5 ∧ AW d 54 134 [l0, l1, l2, l3, l4, l5, l6, l7] [.int (mI m a 6), v1] m Q := A_getfield (f := fun m a => .int (mI m a 6)) hB_X5_passMinute dX5_passMinute_131 hO_X5_passMinute fF_5_36 rfl
theorem dX5_passMinute_134 : decode cX5_passMinute 134 = .ok (.i2l, 1) := by decide +kernel
theorem tX5_passMinute_134 {d : Nat} {l0 l1 l2 l3 l4 l5 l6 l7 : Option Value} {v1 : Value} {x : Int32} {m : jmM} {Q : Option Value → jmM → Prop} : AW d 54 134 [l0, l1, l2, l3, l4, l5, l6, l7] [.int x, v1] m Q ↔ AW d 54 135 [l0, l1, l2, l3, l4, l5, l6, l7] [.long x.toInt64, v1] m Q := A_i2l hB_X5_passMinute dX5_passMinute_134
theorem dX5_passMinute_135 : decode cX5_passMinute 135 = .ok (.lload 6, 2) := by decide +kernel
theorem tX5_passMinute_135 {d : Nat} {l0 l1 l2 l3 l4 l5 l7 : Option Value} {v0 v1 : Value} {x : Int64} {m : jmM} {Q : Option Value → jmM → Prop} : AW d 54 135 [l0, l1, l2, l3, l4, l5, some (.long x), l7] [v0, v1] m Q ↔ AW d 54 137 [l0, l1, l2, l3, l4, l5, some (.long x), l7] [.long x, v0, v1] m Q := A_lload hB_X5_passMinute dX5_passMinute_135 rfl
theorem dX5_passMinute_137 : decode cX5_passMinute 137 = .ok (.ladd, 1) := by decide +kernel
theorem tX5_passMinute_137 {d : Nat} {l0 l1 l2 l3 l4 l5 l6 l7 : Option Value} {v2 : Value} {x y : Int64} {m : jmM} {Q : Option Value → jmM → Prop} : AW d 54 137 [l0, l1, l2, l3, l4, l5, l6, l7] [.long y, .long x, v2] m Q ↔ AW d 54 138 [l0, l1, l2, l3, l4, l5, l6, l7] [.long (x + y), v2] m Q := A_ladd hB_X5_passMinute dX5_passMinute_137
theorem dX5_passMinute_138 : decode cX5_passMinute 138 = .ok (.aload_n 0, 1) := by decide +kernel
theorem tX5_passMinute_138 {d : Nat} {l1 l2 l3 l4 l5 l6 l7 : Option Value} {v0 v1 : Value} {x : Nat} {m : jmM} {Q : Option Value → jmM → Prop} : AW d 54 138 [some (.ref x), l1, l2, l3, l4, l5, l6, l7] [v0, v1] m Q ↔ AW d 54 139 [some (.ref x), l1, l2, l3, l4, l5, l6, l7] [.ref x, v0, v1] m Q := A_aload_n hB_X5_passMinute dX5_passMinute_138 rfl
theorem dX5_passMinute_139 : decode cX5_passMinute 139 = .ok (.invokevirtual 141, 3) := by decide +kernel
theorem tX5_passMinute_139 {d : Nat} {l0 l1 l2 l3 l4 l5 l6 l7 : Option Value} {v1 v2 : Value} {a : Nat} {m : jmM} {Q : Option Value → jmM → Prop} : AW d 54 139 [l0, l1, l2, l3, l4, l5, l6, l7] [.ref a, v1, v2] m Q ↔ (mS m a).1 = 5 ∧ CC d 57 [.ref a] m (jK d 54 142 [l0, l1, l2, l3, l4, l5, l6, l7] [v1, v2] Q) := A_callV hB_X5_passMinute dX5_passMinute_139 hO_X5_passMinute fS_5_141 ⟨Nat.le_of_ble_eq_true rfl, Nat.le_of_ble_eq_true rfl⟩ rfl rfl rfl
theorem dX5_passMinute_142 : decode cX5_passMinute 142 = .ok (.ladd, 1) := by decide +kernel
theorem tX5_passMinute_142 {d : Nat} {l0 l1 l2 l3 l4 l5 l6 l7 : Option Value} {v2 : Value} {x y : Int64} {m : jmM} {Q : Option Value → jmM → Prop} : AW d 54 142 [l0, l1, l2, l3, l4, l5, l6, l7] [.long y, .long x, v2] m Q ↔ AW d 54 143 [l0, l1, l2, l3, l4, l5, l6, l7] [.long (x + y), v2] m Q := A_ladd hB_X5_passMinute dX5_passMinute_142
theorem dX5_passMinute_143 : decode cX5_passMinute 143 = .ok (.lconst 0, 1) := by decide +kernel
theorem tX5_passMinute_143 {d : Nat} {l0 l1 l2 l3 l4 l5 l6 l7 : Option Value} {v0 v1 : Value} {m : jmM} {Q : Option Value → jmM → Prop} : AW d 54 143 [l0, l1, l2, l3, l4, l5, l6, l7] [v0, v1] m Q ↔ AW d 54 144 [l0, l1, l2, l3, l4, l5, l6, l7] [.long 0, v0, v1] m Q := A_lconst hB_X5_passMinute dX5_passMinute_143 (by decide)
theorem dX5_passMinute_144 : decode cX5_passMinute 144 = .ok (.ldc2_w 112, 3) := by decide +kernel
theorem tX5_passMinute_144 {d : Nat} {l0 l1 l2 l3 l4 l5 l6 l7 : Option Value} {v0 v1 v2 : Value} {m : jmM} {Q : Option Value → jmM → Prop} : AW d 54 144 [l0, l1, l2, l3, l4, l5, l6, l7] [v0, v1, v2] m Q ↔ AW d 54 147 [l0, l1, l2, l3, l4, l5, l6, l7] [.long 9999, v0, v1, v2] m Q := A_ldc2_w hB_X5_passMinute dX5_passMinute_144 hO_X5_passMinute fL2_5_112
theorem dX5_passMinute_147 : decode cX5_passMinute 147 = .ok (.invokestatic 114, 3) := by decide +kernel
theorem tX5_passMinute_147 {d : Nat} {l0 l1 l2 l3 l4 l5 l6 l7 : Option Value} {v3 : Value} {y0 y1 y2 : Value} {m : jmM} {Q : Option Value → jmM → Prop} : AW d 54 147 [l0, l1, l2, l3, l4, l5, l6, l7] [y0, y1, y2, v3] m Q ↔ CC d 185 [y2, y1, y0] m (jK d 54 150 [l0, l1, l2, l3, l4, l5, l6, l7] [v3] Q) := A_callS4 hB_X5_passMinute dX5_passMinute_147 hO_X5_passMinute fS_5_114 ⟨Nat.le_of_ble_eq_true rfl, Nat.le_of_ble_eq_true rfl⟩ rfl rfl
theorem dX5_passMinute_150 : decode cX5_passMinute 150 = .ok (.l2i, 1) := by decide +kernel
theorem tX5_passMinute_150 {d : Nat} {l0 l1 l2 l3 l4 l5 l6 l7 : Option Value} {v1 : Value} {x : Int64} {m : jmM} {Q : Option Value → jmM → Prop} : AW d 54 150 [l0, l1, l2, l3, l4, l5, l6, l7] [.long x, v1] m Q ↔ AW d 54 151 [l0, l1, l2, l3, l4, l5, l6, l7] [.int x.toInt32, v1] m Q := A_l2i hB_X5_passMinute dX5_passMinute_150
theorem dX5_passMinute_151 : decode cX5_passMinute 151 = .ok (.putfield 36, 3) := by decide +kernel
theorem tX5_passMinute_151 {d : Nat} {l0 l1 l2 l3 l4 l5 l6 l7 : Option Value} {x : Int32} {a : Nat} {m : jmM} {Q : Option Value → jmM → Prop} : AW d 54 151 [l0, l1, l2, l3, l4, l5, l6, l7] [.int x, .ref a] m Q ↔ (mS m a).1 = 5 ∧ AW d 54 154 [l0, l1, l2, l3, l4, l5, l6, l7] [] (cI m a (jup (mI m a) 6 x)) Q := A_putI hB_X5_passMinute dX5_passMinute_151 hO_X5_passMinute fF_5_36 rfl (fun h => Bool.noConfusion h)
theorem dX5_passMinute_154 : decode cX5_passMinute 154 = .ok (.aload_n 0, 1) := by decide +kernel
theorem tX5_passMinute_154 {d : Nat} {l1 l2 l3 l4 l5 l6 l7 : Option Value} {x : Nat} {m : jmM} {Q : Option Value → jmM → Prop} : AW d 54 154 [some (.ref x), l1, l2, l3, l4, l5, l6, l7] [] m Q ↔ AW d 54 155 [some (.ref x), l1, l2, l3, l4, l5, l6, l7] [.ref x] m Q := A_aload_n hB_X5_passMinute dX5_passMinute_154 rfl
theorem dX5_passMinute_155 : decode cX5_passMinute 155 = .ok (.invokevirtual 145, 3) := by decide +kernel
theorem tX5_passMinute_155 {d : Nat} {l0 l1 l2 l3 l4 l5 l6 l7 : Option Value} {a : Nat} {m : jmM} {Q : Option Value → jmM → Prop} : AW d 54 155 [l0, l1, l2, l3, l4, l5, l6, l7] [.ref a] m Q ↔ (mS m a).1 = 5 ∧ CC d 58 [.ref a] m (jK d 54 158 [l0, l1, l2, l3, l4, l5, l6, l7] [] Q) := A_callV hB_X5_passMinute dX5_passMinute_155 hO_X5_passMinute fS_5_145 ⟨Nat.le_of_ble_eq_true rfl, Nat.le_of_ble_eq_true rfl⟩ rfl rfl rfl
theorem dX5_passMinute_158 : decode cX5_passMinute 158 = .ok (.aload_n 0, 1) := by decide +kernel
theorem tX5_passMinute_158 {d : Nat} {l1 l2 l3 l4 l5 l6 l7 : Option Value} {x : Nat} {m : jmM} {Q : Option Value → jmM → Prop} : AW d 54 158 [some (.ref x), l1, l2, l3, l4, l5, l6, l7] [] m Q ↔ AW d 54 159 [some (.ref x), l1, l2, l3, l4, l5, l6, l7] [.ref x] m Q := A_aload_n hB_X5_passMinute dX5_passMinute_158 rfl
theorem dX5_passMinute_159 : decode cX5_passMinute 159 = .ok (.dup, 1) := by decide +kernel
theorem tX5_passMinute_159 {d : Nat} {l0 l1 l2 l3 l4 l5 l6 l7 : Option Value} {x : Nat} {m : jmM} {Q : Option Value → jmM → Prop} : AW d 54 159 [l0, l1, l2, l3, l4, l5, l6, l7] [.ref x] m Q ↔ AW d 54 160 [l0, l1, l2, l3, l4, l5, l6, l7] [.ref x, .ref x] m Q := A_dup_a hB_X5_passMinute dX5_passMinute_159
theorem dX5_passMinute_160 : decode cX5_passMinute 160 = .ok (.getfield 48, 3) := by decide +kernel
theorem tX5_passMinute_160 {d : Nat} {l0 l1 l2 l3 l4 l5 l6 l7 : Option Value} {v1 : Value} {a : Nat} {m : jmM} {Q : Option Value → jmM → Prop} : AW d 54 160 [l0, l1, l2, l3, l4, l5, l6, l7] [.ref a, v1] m Q ↔ (mS m a).1 = 5 ∧ AW d 54 163 [l0, l1, l2, l3, l4, l5, l6, l7] [.int (mI m a 10), v1] m Q := A_getfield (f := fun m a => .int (mI m a 10)) hB_X5_passMinute dX5_passMinute_160 hO_X5_passMinute fF_5_48 rfl
theorem dX5_passMinute_163 : decode cX5_passMinute 163 = .ok (.iconst 1, 1) := by decide +kernel
theorem tX5_passMinute_163 {d : Nat} {l0 l1 l2 l3 l4 l5 l6 l7 : Option Value} {v0 v1 : Value} {m : jmM} {Q : Option Value → jmM → Prop} : AW d 54 163 [l0, l1, l2, l3, l4, l5, l6, l7] [v0, v1] m Q ↔ AW d 54 164 [l0, l1, l2, l3, l4, l5, l6, l7] [.int 1, v0, v1] m Q := A_iconst hB_X5_passMinute dX5_passMinute_163 (by decide)
theorem dX5_passMinute_164 : decode cX5_passMinute 164 = .ok (.iadd, 1) := by decide +kernel
theorem tX5_passMinute_164 {d : Nat} {l0 l1 l2 l3 l4 l5 l6 l7 : Option Value} {v2 : Value} {x y : Int32} {m : jmM} {Q : Option Value → jmM → Prop} : AW d 54 164 [l0, l1, l2, l3, l4, l5, l6, l7] [.int y, .int x, v2] m Q ↔ AW d 54 165 [l0, l1, l2, l3, l4, l5, l6, l7] [.int (x + y), v2] m Q := A_iadd hB_X5_passMinute dX5_passMinute_164
theorem dX5_passMinute_165 : decode cX5_passMinute 165 = .ok (.putfield 48, 3) := by decide +kernel
theorem tX5_passMinute_165 {d : Nat} {l0 l1 l2 l3 l4 l5 l6 l7 : Option Value} {x : Int32} {a : Nat} {m : jmM} {Q : Option Value → jmM → Prop} : AW d 54 165 [l0, l1, l2, l3, l4, l5, l6, l7] [.int x, .ref a] m Q ↔ (mS m a).1 = 5 ∧ AW d 54 168 [l0, l1, l2, l3, l4, l5, l6, l7] [] (cI m a (jup (mI m a) 10 x)) Q := A_putI hB_X5_passMinute dX5_passMinute_165 hO_X5_passMinute fF_5_48 rfl (fun h => Bool.noConfusion h)
theorem dX5_passMinute_168 : decode cX5_passMinute 168 = .ok (.aload_n 0, 1) := by decide +kernel
theorem tX5_passMinute_168 {d : Nat} {l1 l2 l3 l4 l5 l6 l7 : Option Value} {x : Nat} {m : jmM} {Q : Option Value → jmM → Prop} : AW d 54 168 [some (.ref x), l1, l2, l3, l4, l5, l6, l7] [] m Q ↔ AW d 54 169 [some (.ref x), l1, l2, l3, l4, l5, l6, l7] [.ref x] m Q := A_aload_n hB_X5_passMinute dX5_passMinute_168 rfl
theorem dX5_passMinute_169 : decode cX5_passMinute 169 = .ok (.aload_n 0, 1) := by decide +kernel
theorem tX5_passMinute_169 {d : Nat} {l1 l2 l3 l4 l5 l6 l7 : Option Value} {v0 : Value} {x : Nat} {m : jmM} {Q : Option Value → jmM → Prop} : AW d 54 169 [some (.ref x), l1, l2, l3, l4, l5, l6, l7] [v0] m Q ↔ AW d 54 170 [some (.ref x), l1, l2, l3, l4, l5, l6, l7] [.ref x, v0] m Q := A_aload_n hB_X5_passMinute dX5_passMinute_169 rfl
theorem dX5_passMinute_170 : decode cX5_passMinute 170 = .ok (.invokevirtual 148, 3) := by decide +kernel
theorem tX5_passMinute_170 {d : Nat} {l0 l1 l2 l3 l4 l5 l6 l7 : Option Value} {v1 : Value} {a : Nat} {m : jmM} {Q : Option Value → jmM → Prop} : AW d 54 170 [l0, l1, l2, l3, l4, l5, l6, l7] [.ref a, v1] m Q ↔ (mS m a).1 = 5 ∧ CC d 59 [.ref a] m (jK d 54 173 [l0, l1, l2, l3, l4, l5, l6, l7] [v1] Q) := A_callV hB_X5_passMinute dX5_passMinute_170 hO_X5_passMinute fS_5_148 ⟨Nat.le_of_ble_eq_true rfl, Nat.le_of_ble_eq_true rfl⟩ rfl rfl rfl
theorem dX5_passMinute_173 : decode cX5_passMinute 173 = .ok (.putfield 25, 3) := by decide +kernel
theorem tX5_passMinute_173 {d : Nat} {l0 l1 l2 l3 l4 l5 l6 l7 : Option Value} {x : Int32} {a : Nat} {m : jmM} {Q : Option Value → jmM → Prop} : AW d 54 173 [l0, l1, l2, l3, l4, l5, l6, l7] [.int x, .ref a] m Q ↔ (mS m a).1 = 5 ∧ AW d 54 176 [l0, l1, l2, l3, l4, l5, l6, l7] [] (cI m a (jup (mI m a) 3 x)) Q := A_putI hB_X5_passMinute dX5_passMinute_173 hO_X5_passMinute fF_5_25 rfl (fun h => Bool.noConfusion h)
theorem dX5_passMinute_176 : decode cX5_passMinute 176 = .ok (.return_, 1) := by decide +kernel
theorem tX5_passMinute_176 {d : Nat} {l0 l1 l2 l3 l4 l5 l6 l7 : Option Value} {m : jmM} {Q : Option Value → jmM → Prop} : AW d 54 176 [l0, l1, l2, l3, l4, l5, l6, l7] [] m Q ↔ Q none m := A_return hB_X5_passMinute dX5_passMinute_176 hR_X5_passMinute
theorem hB_X5_tellWords : jB 55 = cX5_tellWords := rfl
theorem hO_X5_tellWords : jO 55 = 5 := rfl
theorem hR_X5_tellWords : jRt 55 = none := rfl
theorem nX5_tellWords (d : Nat) (x0 : Nat) (x1 : Nat) (m : jmM) (Q : Option Value → jmM → Prop) : CC (d + 1) 55 [.ref x0, .ref x1] m Q ↔ AW d 55 0 [some (.ref x0), some (.ref x1), none] [] m Q := CC_body (Nat.le_of_ble_eq_true rfl)
theorem dX5_tellWords_0 : decode cX5_tellWords 0 = .ok (.aload_n 0, 1) := by decide +kernel
theorem tX5_tellWords_0 {d : Nat} {l1 l2 : Option Value} {x : Nat} {m : jmM} {Q : Option Value → jmM → Prop} : AW d 55 0 [some (.ref x), l1, l2] [] m Q ↔ AW d 55 1 [some (.ref x), l1, l2] [.ref x] m Q := A_aload_n hB_X5_tellWords dX5_tellWords_0 rfl
theorem dX5_tellWords_1 : decode cX5_tellWords 1 = .ok (.getfield 51, 3) := by decide +kernel
theorem tX5_tellWords_1 {d : Nat} {l0 l1 l2 : Option Value} {a : Nat} {m : jmM} {Q : Option Value → jmM → Prop} : AW d 55 1 [l0, l1, l2] [.ref a] m Q ↔ (mS m a).1 = 5 ∧ AW d 55 4 [l0, l1, l2] [.int (mI m a 11)] m Q := A_getfield (f := fun m a => .int (mI m a 11)) hB_X5_tellWords dX5_tellWords_1 hO_X5_tellWords fF_5_51 rfl
theorem dX5_tellWords_4 : decode cX5_tellWords 4 = .ok (.iconst 1, 1) := by decide +kernel
theorem tX5_tellWords_4 {d : Nat} {l0 l1 l2 : Option Value} {v0 : Value} {m : jmM} {Q : Option Value → jmM → Prop} : AW d 55 4 [l0, l1, l2] [v0] m Q ↔ AW d 55 5 [l0, l1, l2] [.int 1, v0] m Q := A_iconst hB_X5_tellWords dX5_tellWords_4 (by decide)
theorem dX5_tellWords_5 : decode cX5_tellWords 5 = .ok (.isub, 1) := by decide +kernel
theorem tX5_tellWords_5 {d : Nat} {l0 l1 l2 : Option Value} {x y : Int32} {m : jmM} {Q : Option Value → jmM → Prop} : AW d 55 5 [l0, l1, l2] [.int y, .int x] m Q ↔ AW d 55 6 [l0, l1, l2] [.int (x - y)] m Q := A_isub hB_X5_tellWords dX5_tellWords_5
theorem dX5_tellWords_6 : decode cX5_tellWords 6 = .ok (.aload_n 0, 1) := by decide +kernel
theorem tX5_tellWords_6 {d : Nat} {l1 l2 : Option Value} {v0 : Value} {x : Nat} {m : jmM} {Q : Option Value → jmM → Prop} : AW d 55 6 [some (.ref x), l1, l2] [v0] m Q ↔ AW d 55 7 [some (.ref x), l1, l2] [.ref x, v0] m Q := A_aload_n hB_X5_tellWords dX5_tellWords_6 rfl
theorem dX5_tellWords_7 : decode cX5_tellWords 7 = .ok (.getfield 18, 3) := by decide +kernel
theorem tX5_tellWords_7 {d : Nat} {l0 l1 l2 : Option Value} {v1 : Value} {a : Nat} {m : jmM} {Q : Option Value → jmM → Prop} : AW d 55 7 [l0, l1, l2] [.ref a, v1] m Q ↔ (mS m a).1 = 5 ∧ AW d 55 10 [l0, l1, l2] [va_rf (mR m a 1), v1] m Q := A_getfield (f := fun m a => va_rf (mR m a 1)) hB_X5_tellWords dX5_tellWords_7 hO_X5_tellWords fF_5_18 rfl
theorem dX5_tellWords_10 : decode cX5_tellWords 10 = .ok (.invokevirtual 151, 3) := by decide +kernel
theorem tX5_tellWords_10 {d : Nat} {l0 l1 l2 : Option Value} {v1 : Value} {a : Nat} {m : jmM} {Q : Option Value → jmM → Prop} : AW d 55 10 [l0, l1, l2] [.ref a, v1] m Q ↔ (mS m a).1 = 3 ∧ CC d 34 [.ref a] m (jK d 55 13 [l0, l1, l2] [v1] Q) := A_callV hB_X5_tellWords dX5_tellWords_10 hO_X5_tellWords fS_5_151 ⟨Nat.le_of_ble_eq_true rfl, Nat.le_of_ble_eq_true rfl⟩ rfl rfl rfl
theorem dX5_tellWords_13 : decode cX5_tellWords 13 = .ok (.isub, 1) := by decide +kernel
theorem tX5_tellWords_13 {d : Nat} {l0 l1 l2 : Option Value} {x y : Int32} {m : jmM} {Q : Option Value → jmM → Prop} : AW d 55 13 [l0, l1, l2] [.int y, .int x] m Q ↔ AW d 55 14 [l0, l1, l2] [.int (x - y)] m Q := A_isub hB_X5_tellWords dX5_tellWords_13
theorem dX5_tellWords_14 : decode cX5_tellWords 14 = .ok (.istore_n 2, 1) := by decide +kernel
theorem tX5_tellWords_14 {d : Nat} {l0 l1 l2 : Option Value} {x : Int32} {m : jmM} {Q : Option Value → jmM → Prop} : AW d 55 14 [l0, l1, l2] [.int x] m Q ↔ AW d 55 15 [l0, jc1 l1, some (.int x)] [] m Q := A_istore_n hB_X5_tellWords dX5_tellWords_14 (Nat.le_of_ble_eq_true rfl) rfl
theorem dX5_tellWords_15 : decode cX5_tellWords 15 = .ok (.aload_n 1, 1) := by decide +kernel
theorem tX5_tellWords_15 {d : Nat} {l0 l2 : Option Value} {x : Nat} {m : jmM} {Q : Option Value → jmM → Prop} : AW d 55 15 [l0, some (.ref x), l2] [] m Q ↔ AW d 55 16 [l0, some (.ref x), l2] [.ref x] m Q := A_aload_n hB_X5_tellWords dX5_tellWords_15 rfl
theorem dX5_tellWords_16 : decode cX5_tellWords 16 = .ok (.iconst 0, 1) := by decide +kernel
theorem tX5_tellWords_16 {d : Nat} {l0 l1 l2 : Option Value} {v0 : Value} {m : jmM} {Q : Option Value → jmM → Prop} : AW d 55 16 [l0, l1, l2] [v0] m Q ↔ AW d 55 17 [l0, l1, l2] [.int 0, v0] m Q := A_iconst hB_X5_tellWords dX5_tellWords_16 (by decide)
theorem dX5_tellWords_17 : decode cX5_tellWords 17 = .ok (.aload_n 0, 1) := by decide +kernel
theorem tX5_tellWords_17 {d : Nat} {l1 l2 : Option Value} {v0 v1 : Value} {x : Nat} {m : jmM} {Q : Option Value → jmM → Prop} : AW d 55 17 [some (.ref x), l1, l2] [v0, v1] m Q ↔ AW d 55 18 [some (.ref x), l1, l2] [.ref x, v0, v1] m Q := A_aload_n hB_X5_tellWords dX5_tellWords_17 rfl
theorem dX5_tellWords_18 : decode cX5_tellWords 18 = .ok (.getfield 51, 3) := by decide +kernel
theorem tX5_tellWords_18 {d : Nat} {l0 l1 l2 : Option Value} {v1 v2 : Value} {a : Nat} {m : jmM} {Q : Option Value → jmM → Prop} : AW d 55 18 [l0, l1, l2] [.ref a, v1, v2] m Q ↔ (mS m a).1 = 5 ∧ AW d 55 21 [l0, l1, l2] [.int (mI m a 11), v1, v2] m Q := A_getfield (f := fun m a => .int (mI m a 11)) hB_X5_tellWords dX5_tellWords_18 hO_X5_tellWords fF_5_51 rfl
theorem dX5_tellWords_21 : decode cX5_tellWords 21 = .ok (.i2l, 1) := by decide +kernel
theorem tX5_tellWords_21 {d : Nat} {l0 l1 l2 : Option Value} {v1 v2 : Value} {x : Int32} {m : jmM} {Q : Option Value → jmM → Prop} : AW d 55 21 [l0, l1, l2] [.int x, v1, v2] m Q ↔ AW d 55 22 [l0, l1, l2] [.long x.toInt64, v1, v2] m Q := A_i2l hB_X5_tellWords dX5_tellWords_21
theorem dX5_tellWords_22 : decode cX5_tellWords 22 = .ok (.invokevirtual 135, 3) := by decide +kernel
theorem tX5_tellWords_22 {d : Nat} {l0 l1 l2 : Option Value} {y0 y1 : Value} {a : Nat} {m : jmM} {Q : Option Value → jmM → Prop} : AW d 55 22 [l0, l1, l2] [y0, y1, .ref a] m Q ↔ (mS m a).1 = 1 ∧ CC d 11 [.ref a, y1, y0] m (jK d 55 25 [l0, l1, l2] [] Q) := A_callV hB_X5_tellWords dX5_tellWords_22 hO_X5_tellWords fS_5_135 ⟨Nat.le_of_ble_eq_true rfl, Nat.le_of_ble_eq_true rfl⟩ rfl rfl rfl
theorem dX5_tellWords_25 : decode cX5_tellWords 25 = .ok (.aload_n 1, 1) := by decide +kernel
theorem tX5_tellWords_25 {d : Nat} {l0 l2 : Option Value} {x : Nat} {m : jmM} {Q : Option Value → jmM → Prop} : AW d 55 25 [l0, some (.ref x), l2] [] m Q ↔ AW d 55 26 [l0, some (.ref x), l2] [.ref x] m Q := A_aload_n hB_X5_tellWords dX5_tellWords_25 rfl
theorem dX5_tellWords_26 : decode cX5_tellWords 26 = .ok (.iconst 1, 1) := by decide +kernel
theorem tX5_tellWords_26 {d : Nat} {l0 l1 l2 : Option Value} {v0 : Value} {m : jmM} {Q : Option Value → jmM → Prop} : AW d 55 26 [l0, l1, l2] [v0] m Q ↔ AW d 55 27 [l0, l1, l2] [.int 1, v0] m Q := A_iconst hB_X5_tellWords dX5_tellWords_26 (by decide)
theorem dX5_tellWords_27 : decode cX5_tellWords 27 = .ok (.aload_n 0, 1) := by decide +kernel
theorem tX5_tellWords_27 {d : Nat} {l1 l2 : Option Value} {v0 v1 : Value} {x : Nat} {m : jmM} {Q : Option Value → jmM → Prop} : AW d 55 27 [some (.ref x), l1, l2] [v0, v1] m Q ↔ AW d 55 28 [some (.ref x), l1, l2] [.ref x, v0, v1] m Q := A_aload_n hB_X5_tellWords dX5_tellWords_27 rfl
theorem dX5_tellWords_28 : decode cX5_tellWords 28 = .ok (.iload_n 2, 1) := by decide +kernel
theorem tX5_tellWords_28 {d : Nat} {l0 l1 : Option Value} {v0 v1 v2 : Value} {x : Int32} {m : jmM} {Q : Option Value → jmM → Prop} : AW d 55 28 [l0, l1, some (.int x)] [v0, v1, v2] m Q ↔ AW d 55 29 [l0, l1, some (.int x)] [.int x, v0, v1, v2] m Q := A_iload_n hB_X5_tellWords dX5_tellWords_28 rfl
theorem dX5_tellWords_29 : decode cX5_tellWords 29 = .ok (.invokevirtual 156, 3) := by decide +kernel
theorem tX5_tellWords_29 {d : Nat} {l0 l1 l2 : Option Value} {v2 v3 : Value} {y0 : Value} {a : Nat} {m : jmM} {Q : Option Value → jmM → Prop} : AW d 55 29 [l0, l1, l2] [y0, .ref a, v2, v3] m Q ↔ (mS m a).1 = 5 ∧ CC d 56 [.ref a, y0] m (jK d 55 32 [l0, l1, l2] [v2, v3] Q) := A_callV hB_X5_tellWords dX5_tellWords_29 hO_X5_tellWords fS_5_156 ⟨Nat.le_of_ble_eq_true rfl, Nat.le_of_ble_eq_true rfl⟩ rfl rfl rfl
theorem dX5_tellWords_32 : decode cX5_tellWords 32 = .ok (.i2l, 1) := by decide +kernel
theorem tX5_tellWords_32 {d : Nat} {l0 l1 l2 : Option Value} {v1 v2 : Value} {x : Int32} {m : jmM} {Q : Option Value → jmM → Prop} : AW d 55 32 [l0, l1, l2] [.int x, v1, v2] m Q ↔ AW d 55 33 [l0, l1, l2] [.long x.toInt64, v1, v2] m Q := A_i2l hB_X5_tellWords dX5_tellWords_32
theorem dX5_tellWords_33 : decode cX5_tellWords 33 = .ok (.invokevirtual 135, 3) := by decide +kernel
theorem tX5_tellWords_33 {d : Nat} {l0 l1 l2 : Option Value} {y0 y1 : Value} {a : Nat} {m : jmM} {Q : Option Value → jmM → Prop} : AW d 55 33 [l0, l1, l2] [y0, y1, .ref a] m Q ↔ (mS m a).1 = 1 ∧ CC d 11 [.ref a, y1, y0] m (jK d 55 36 [l0, l1, l2] [] Q) := A_callV hB_X5_tellWords dX5_tellWords_33 hO_X5_tellWords fS_5_135 ⟨Nat.le_of_ble_eq_true rfl, Nat.le_of_ble_eq_true rfl⟩ rfl rfl rfl
theorem dX5_tellWords_36 : decode cX5_tellWords 36 = .ok (.aload_n 1, 1) := by decide +kernel
theorem tX5_tellWords_36 {d : Nat} {l0 l2 : Option Value} {x : Nat} {m : jmM} {Q : Option Value → jmM → Prop} : AW d 55 36 [l0, some (.ref x), l2] [] m Q ↔ AW d 55 37 [l0, some (.ref x), l2] [.ref x] m Q := A_aload_n hB_X5_tellWords dX5_tellWords_36 rfl
theorem dX5_tellWords_37 : decode cX5_tellWords 37 = .ok (.iconst 2, 1) := by decide +kernel
theorem tX5_tellWords_37 {d : Nat} {l0 l1 l2 : Option Value} {v0 : Value} {m : jmM} {Q : Option Value → jmM → Prop} : AW d 55 37 [l0, l1, l2] [v0] m Q ↔ AW d 55 38 [l0, l1, l2] [.int 2, v0] m Q := A_iconst hB_X5_tellWords dX5_tellWords_37 (by decide)
theorem dX5_tellWords_38 : decode cX5_tellWords 38 = .ok (.aload_n 0, 1) := by decide +kernel
theorem tX5_tellWords_38 {d : Nat} {l1 l2 : Option Value} {v0 v1 : Value} {x : Nat} {m : jmM} {Q : Option Value → jmM → Prop} : AW d 55 38 [some (.ref x), l1, l2] [v0, v1] m Q ↔ AW d 55 39 [some (.ref x), l1, l2] [.ref x, v0, v1] m Q := A_aload_n hB_X5_tellWords dX5_tellWords_38 rfl
theorem dX5_tellWords_39 : decode cX5_tellWords 39 = .ok (.iload_n 2, 1) := by decide +kernel
theorem tX5_tellWords_39 {d : Nat} {l0 l1 : Option Value} {v0 v1 v2 : Value} {x : Int32} {m : jmM} {Q : Option Value → jmM → Prop} : AW d 55 39 [l0, l1, some (.int x)] [v0, v1, v2] m Q ↔ AW d 55 40 [l0, l1, some (.int x)] [.int x, v0, v1, v2] m Q := A_iload_n hB_X5_tellWords dX5_tellWords_39 rfl
theorem dX5_tellWords_40 : decode cX5_tellWords 40 = .ok (.iconst 1, 1) := by decide +kernel
theorem tX5_tellWords_40 {d : Nat} {l0 l1 l2 : Option Value} {v0 v1 v2 v3 : Value} {m : jmM} {Q : Option Value → jmM → Prop} : AW d 55 40 [l0, l1, l2] [v0, v1, v2, v3] m Q ↔ AW d 55 41 [l0, l1, l2] [.int 1, v0, v1, v2, v3] m Q := A_iconst hB_X5_tellWords dX5_tellWords_40 (by decide)
theorem dX5_tellWords_41 : decode cX5_tellWords 41 = .ok (.isub, 1) := by decide +kernel
theorem tX5_tellWords_41 {d : Nat} {l0 l1 l2 : Option Value} {v2 v3 v4 : Value} {x y : Int32} {m : jmM} {Q : Option Value → jmM → Prop} : AW d 55 41 [l0, l1, l2] [.int y, .int x, v2, v3, v4] m Q ↔ AW d 55 42 [l0, l1, l2] [.int (x - y), v2, v3, v4] m Q := A_isub hB_X5_tellWords dX5_tellWords_41
theorem dX5_tellWords_42 : decode cX5_tellWords 42 = .ok (.invokevirtual 156, 3) := by decide +kernel
theorem tX5_tellWords_42 {d : Nat} {l0 l1 l2 : Option Value} {v2 v3 : Value} {y0 : Value} {a : Nat} {m : jmM} {Q : Option Value → jmM → Prop} : AW d 55 42 [l0, l1, l2] [y0, .ref a, v2, v3] m Q ↔ (mS m a).1 = 5 ∧ CC d 56 [.ref a, y0] m (jK d 55 45 [l0, l1, l2] [v2, v3] Q) := A_callV hB_X5_tellWords dX5_tellWords_42 hO_X5_tellWords fS_5_156 ⟨Nat.le_of_ble_eq_true rfl, Nat.le_of_ble_eq_true rfl⟩ rfl rfl rfl
theorem dX5_tellWords_45 : decode cX5_tellWords 45 = .ok (.i2l, 1) := by decide +kernel
theorem tX5_tellWords_45 {d : Nat} {l0 l1 l2 : Option Value} {v1 v2 : Value} {x : Int32} {m : jmM} {Q : Option Value → jmM → Prop} : AW d 55 45 [l0, l1, l2] [.int x, v1, v2] m Q ↔ AW d 55 46 [l0, l1, l2] [.long x.toInt64, v1, v2] m Q := A_i2l hB_X5_tellWords dX5_tellWords_45
theorem dX5_tellWords_46 : decode cX5_tellWords 46 = .ok (.invokevirtual 135, 3) := by decide +kernel
theorem tX5_tellWords_46 {d : Nat} {l0 l1 l2 : Option Value} {y0 y1 : Value} {a : Nat} {m : jmM} {Q : Option Value → jmM → Prop} : AW d 55 46 [l0, l1, l2] [y0, y1, .ref a] m Q ↔ (mS m a).1 = 1 ∧ CC d 11 [.ref a, y1, y0] m (jK d 55 49 [l0, l1, l2] [] Q) := A_callV hB_X5_tellWords dX5_tellWords_46 hO_X5_tellWords fS_5_135 ⟨Nat.le_of_ble_eq_true rfl, Nat.le_of_ble_eq_true rfl⟩ rfl rfl rfl
theorem dX5_tellWords_49 : decode cX5_tellWords 49 = .ok (.aload_n 1, 1) := by decide +kernel
theorem tX5_tellWords_49 {d : Nat} {l0 l2 : Option Value} {x : Nat} {m : jmM} {Q : Option Value → jmM → Prop} : AW d 55 49 [l0, some (.ref x), l2] [] m Q ↔ AW d 55 50 [l0, some (.ref x), l2] [.ref x] m Q := A_aload_n hB_X5_tellWords dX5_tellWords_49 rfl
theorem dX5_tellWords_50 : decode cX5_tellWords 50 = .ok (.iconst 3, 1) := by decide +kernel
theorem tX5_tellWords_50 {d : Nat} {l0 l1 l2 : Option Value} {v0 : Value} {m : jmM} {Q : Option Value → jmM → Prop} : AW d 55 50 [l0, l1, l2] [v0] m Q ↔ AW d 55 51 [l0, l1, l2] [.int 3, v0] m Q := A_iconst hB_X5_tellWords dX5_tellWords_50 (by decide)
theorem dX5_tellWords_51 : decode cX5_tellWords 51 = .ok (.aload_n 0, 1) := by decide +kernel
theorem tX5_tellWords_51 {d : Nat} {l1 l2 : Option Value} {v0 v1 : Value} {x : Nat} {m : jmM} {Q : Option Value → jmM → Prop} : AW d 55 51 [some (.ref x), l1, l2] [v0, v1] m Q ↔ AW d 55 52 [some (.ref x), l1, l2] [.ref x, v0, v1] m Q := A_aload_n hB_X5_tellWords dX5_tellWords_51 rfl
theorem dX5_tellWords_52 : decode cX5_tellWords 52 = .ok (.getfield 12, 3) := by decide +kernel
theorem tX5_tellWords_52 {d : Nat} {l0 l1 l2 : Option Value} {v1 v2 : Value} {a : Nat} {m : jmM} {Q : Option Value → jmM → Prop} : AW d 55 52 [l0, l1, l2] [.ref a, v1, v2] m Q ↔ (mS m a).1 = 5 ∧ AW d 55 55 [l0, l1, l2] [va_rf (mR m a 0), v1, v2] m Q := A_getfield (f := fun m a => va_rf (mR m a 0)) hB_X5_tellWords dX5_tellWords_52 hO_X5_tellWords fF_5_12 rfl
theorem dX5_tellWords_55 : decode cX5_tellWords 55 = .ok (.invokevirtual 106, 3) := by decide +kernel
theorem tX5_tellWords_55 {d : Nat} {l0 l1 l2 : Option Value} {v1 v2 : Value} {a : Nat} {m : jmM} {Q : Option Value → jmM → Prop} : AW d 55 55 [l0, l1, l2] [.ref a, v1, v2] m Q ↔ (mS m a).1 = 8 ∧ CC d 123 [.ref a] m (jK d 55 58 [l0, l1, l2] [v1, v2] Q) := A_callV hB_X5_tellWords dX5_tellWords_55 hO_X5_tellWords fS_5_106 ⟨Nat.le_of_ble_eq_true rfl, Nat.le_of_ble_eq_true rfl⟩ rfl rfl rfl
theorem dX5_tellWords_58 : decode cX5_tellWords 58 = .ok (.i2l, 1) := by decide +kernel
theorem tX5_tellWords_58 {d : Nat} {l0 l1 l2 : Option Value} {v1 v2 : Value} {x : Int32} {m : jmM} {Q : Option Value → jmM → Prop} : AW d 55 58 [l0, l1, l2] [.int x, v1, v2] m Q ↔ AW d 55 59 [l0, l1, l2] [.long x.toInt64, v1, v2] m Q := A_i2l hB_X5_tellWords dX5_tellWords_58
theorem dX5_tellWords_59 : decode cX5_tellWords 59 = .ok (.invokevirtual 135, 3) := by decide +kernel
theorem tX5_tellWords_59 {d : Nat} {l0 l1 l2 : Option Value} {y0 y1 : Value} {a : Nat} {m : jmM} {Q : Option Value → jmM → Prop} : AW d 55 59 [l0, l1, l2] [y0, y1, .ref a] m Q ↔ (mS m a).1 = 1 ∧ CC d 11 [.ref a, y1, y0] m (jK d 55 62 [l0, l1, l2] [] Q) := A_callV hB_X5_tellWords dX5_tellWords_59 hO_X5_tellWords fS_5_135 ⟨Nat.le_of_ble_eq_true rfl, Nat.le_of_ble_eq_true rfl⟩ rfl rfl rfl
theorem dX5_tellWords_62 : decode cX5_tellWords 62 = .ok (.aload_n 1, 1) := by decide +kernel
theorem tX5_tellWords_62 {d : Nat} {l0 l2 : Option Value} {x : Nat} {m : jmM} {Q : Option Value → jmM → Prop} : AW d 55 62 [l0, some (.ref x), l2] [] m Q ↔ AW d 55 63 [l0, some (.ref x), l2] [.ref x] m Q := A_aload_n hB_X5_tellWords dX5_tellWords_62 rfl
theorem dX5_tellWords_63 : decode cX5_tellWords 63 = .ok (.iconst 4, 1) := by decide +kernel
theorem tX5_tellWords_63 {d : Nat} {l0 l1 l2 : Option Value} {v0 : Value} {m : jmM} {Q : Option Value → jmM → Prop} : AW d 55 63 [l0, l1, l2] [v0] m Q ↔ AW d 55 64 [l0, l1, l2] [.int 4, v0] m Q := A_iconst hB_X5_tellWords dX5_tellWords_63 (by decide)
theorem dX5_tellWords_64 : decode cX5_tellWords 64 = .ok (.aload_n 0, 1) := by decide +kernel
theorem tX5_tellWords_64 {d : Nat} {l1 l2 : Option Value} {v0 v1 : Value} {x : Nat} {m : jmM} {Q : Option Value → jmM → Prop} : AW d 55 64 [some (.ref x), l1, l2] [v0, v1] m Q ↔ AW d 55 65 [some (.ref x), l1, l2] [.ref x, v0, v1] m Q := A_aload_n hB_X5_tellWords dX5_tellWords_64 rfl
theorem dX5_tellWords_65 : decode cX5_tellWords 65 = .ok (.getfield 39, 3) := by decide +kernel
theorem tX5_tellWords_65 {d : Nat} {l0 l1 l2 : Option Value} {v1 v2 : Value} {a : Nat} {m : jmM} {Q : Option Value → jmM → Prop} : AW d 55 65 [l0, l1, l2] [.ref a, v1, v2] m Q ↔ (mS m a).1 = 5 ∧ AW d 55 68 [l0, l1, l2] [.int (mI m a 7), v1, v2] m Q := A_getfield (f := fun m a => .int (mI m a 7)) hB_X5_tellWords dX5_tellWords_65 hO_X5_tellWords fF_5_39 rfl
theorem dX5_tellWords_68 : decode cX5_tellWords 68 = .ok (.i2l, 1) := by decide +kernel
theorem tX5_tellWords_68 {d : Nat} {l0 l1 l2 : Option Value} {v1 v2 : Value} {x : Int32} {m : jmM} {Q : Option Value → jmM → Prop} : AW d 55 68 [l0, l1, l2] [.int x, v1, v2] m Q ↔ AW d 55 69 [l0, l1, l2] [.long x.toInt64, v1, v2] m Q := A_i2l hB_X5_tellWords dX5_tellWords_68
theorem dX5_tellWords_69 : decode cX5_tellWords 69 = .ok (.invokevirtual 135, 3) := by decide +kernel
theorem tX5_tellWords_69 {d : Nat} {l0 l1 l2 : Option Value} {y0 y1 : Value} {a : Nat} {m : jmM} {Q : Option Value → jmM → Prop} : AW d 55 69 [l0, l1, l2] [y0, y1, .ref a] m Q ↔ (mS m a).1 = 1 ∧ CC d 11 [.ref a, y1, y0] m (jK d 55 72 [l0, l1, l2] [] Q) := A_callV hB_X5_tellWords dX5_tellWords_69 hO_X5_tellWords fS_5_135 ⟨Nat.le_of_ble_eq_true rfl, Nat.le_of_ble_eq_true rfl⟩ rfl rfl rfl
theorem dX5_tellWords_72 : decode cX5_tellWords 72 = .ok (.aload_n 1, 1) := by decide +kernel
theorem tX5_tellWords_72 {d : Nat} {l0 l2 : Option Value} {x : Nat} {m : jmM} {Q : Option Value → jmM → Prop} : AW d 55 72 [l0, some (.ref x), l2] [] m Q ↔ AW d 55 73 [l0, some (.ref x), l2] [.ref x] m Q := A_aload_n hB_X5_tellWords dX5_tellWords_72 rfl
theorem dX5_tellWords_73 : decode cX5_tellWords 73 = .ok (.iconst 5, 1) := by decide +kernel
theorem tX5_tellWords_73 {d : Nat} {l0 l1 l2 : Option Value} {v0 : Value} {m : jmM} {Q : Option Value → jmM → Prop} : AW d 55 73 [l0, l1, l2] [v0] m Q ↔ AW d 55 74 [l0, l1, l2] [.int 5, v0] m Q := A_iconst hB_X5_tellWords dX5_tellWords_73 (by decide)
theorem dX5_tellWords_74 : decode cX5_tellWords 74 = .ok (.aload_n 0, 1) := by decide +kernel
theorem tX5_tellWords_74 {d : Nat} {l1 l2 : Option Value} {v0 v1 : Value} {x : Nat} {m : jmM} {Q : Option Value → jmM → Prop} : AW d 55 74 [some (.ref x), l1, l2] [v0, v1] m Q ↔ AW d 55 75 [some (.ref x), l1, l2] [.ref x, v0, v1] m Q := A_aload_n hB_X5_tellWords dX5_tellWords_74 rfl
theorem dX5_tellWords_75 : decode cX5_tellWords 75 = .ok (.getfield 42, 3) := by decide +kernel
theorem tX5_tellWords_75 {d : Nat} {l0 l1 l2 : Option Value} {v1 v2 : Value} {a : Nat} {m : jmM} {Q : Option Value → jmM → Prop} : AW d 55 75 [l0, l1, l2] [.ref a, v1, v2] m Q ↔ (mS m a).1 = 5 ∧ AW d 55 78 [l0, l1, l2] [.int (mI m a 8), v1, v2] m Q := A_getfield (f := fun m a => .int (mI m a 8)) hB_X5_tellWords dX5_tellWords_75 hO_X5_tellWords fF_5_42 rfl
theorem dX5_tellWords_78 : decode cX5_tellWords 78 = .ok (.i2l, 1) := by decide +kernel
theorem tX5_tellWords_78 {d : Nat} {l0 l1 l2 : Option Value} {v1 v2 : Value} {x : Int32} {m : jmM} {Q : Option Value → jmM → Prop} : AW d 55 78 [l0, l1, l2] [.int x, v1, v2] m Q ↔ AW d 55 79 [l0, l1, l2] [.long x.toInt64, v1, v2] m Q := A_i2l hB_X5_tellWords dX5_tellWords_78
theorem dX5_tellWords_79 : decode cX5_tellWords 79 = .ok (.invokevirtual 135, 3) := by decide +kernel
theorem tX5_tellWords_79 {d : Nat} {l0 l1 l2 : Option Value} {y0 y1 : Value} {a : Nat} {m : jmM} {Q : Option Value → jmM → Prop} : AW d 55 79 [l0, l1, l2] [y0, y1, .ref a] m Q ↔ (mS m a).1 = 1 ∧ CC d 11 [.ref a, y1, y0] m (jK d 55 82 [l0, l1, l2] [] Q) := A_callV hB_X5_tellWords dX5_tellWords_79 hO_X5_tellWords fS_5_135 ⟨Nat.le_of_ble_eq_true rfl, Nat.le_of_ble_eq_true rfl⟩ rfl rfl rfl
theorem dX5_tellWords_82 : decode cX5_tellWords 82 = .ok (.aload_n 1, 1) := by decide +kernel
theorem tX5_tellWords_82 {d : Nat} {l0 l2 : Option Value} {x : Nat} {m : jmM} {Q : Option Value → jmM → Prop} : AW d 55 82 [l0, some (.ref x), l2] [] m Q ↔ AW d 55 83 [l0, some (.ref x), l2] [.ref x] m Q := A_aload_n hB_X5_tellWords dX5_tellWords_82 rfl
theorem dX5_tellWords_83 : decode cX5_tellWords 83 = .ok (.bipush 6, 2) := by decide +kernel
theorem tX5_tellWords_83 {d : Nat} {l0 l1 l2 : Option Value} {v0 : Value} {m : jmM} {Q : Option Value → jmM → Prop} : AW d 55 83 [l0, l1, l2] [v0] m Q ↔ AW d 55 85 [l0, l1, l2] [.int 6, v0] m Q := A_bipush hB_X5_tellWords dX5_tellWords_83 rfl
theorem dX5_tellWords_85 : decode cX5_tellWords 85 = .ok (.aload_n 0, 1) := by decide +kernel
theorem tX5_tellWords_85 {d : Nat} {l1 l2 : Option Value} {v0 v1 : Value} {x : Nat} {m : jmM} {Q : Option Value → jmM → Prop} : AW d 55 85 [some (.ref x), l1, l2] [v0, v1] m Q ↔ AW d 55 86 [some (.ref x), l1, l2] [.ref x, v0, v1] m Q := A_aload_n hB_X5_tellWords dX5_tellWords_85 rfl
theorem dX5_tellWords_86 : decode cX5_tellWords 86 = .ok (.getfield 12, 3) := by decide +kernel
theorem tX5_tellWords_86 {d : Nat} {l0 l1 l2 : Option Value} {v1 v2 : Value} {a : Nat} {m : jmM} {Q : Option Value → jmM → Prop} : AW d 55 86 [l0, l1, l2] [.ref a, v1, v2] m Q ↔ (mS m a).1 = 5 ∧ AW d 55 89 [l0, l1, l2] [va_rf (mR m a 0), v1, v2] m Q := A_getfield (f := fun m a => va_rf (mR m a 0)) hB_X5_tellWords dX5_tellWords_86 hO_X5_tellWords fF_5_12 rfl
theorem dX5_tellWords_89 : decode cX5_tellWords 89 = .ok (.invokevirtual 78, 3) := by decide +kernel
theorem tX5_tellWords_89 {d : Nat} {l0 l1 l2 : Option Value} {v1 v2 : Value} {a : Nat} {m : jmM} {Q : Option Value → jmM → Prop} : AW d 55 89 [l0, l1, l2] [.ref a, v1, v2] m Q ↔ (mS m a).1 = 8 ∧ CC d 122 [.ref a] m (jK d 55 92 [l0, l1, l2] [v1, v2] Q) := A_callV hB_X5_tellWords dX5_tellWords_89 hO_X5_tellWords fS_5_78 ⟨Nat.le_of_ble_eq_true rfl, Nat.le_of_ble_eq_true rfl⟩ rfl rfl rfl
theorem dX5_tellWords_92 : decode cX5_tellWords 92 = .ok (.ifCond .ne 7, 3) := by decide +kernel
theorem tX5_tellWords_92 {d : Nat} {l0 l1 l2 : Option Value} {v1 v2 : Value} {x : Int32} {m : jmM} {Q : Option Value → jmM → Prop} : AW d 55 92 [l0, l1, l2] [.int x, v1, v2] m Q ↔ if x = 0 then AW d 55 95 [l0, l1, l2] [v1, v2] m Q else AW d 55 99 [l0, l1, l2] [v1, v2] m Q := A_if_ne hB_X5_tellWords dX5_tellWords_92 (by decide)
theorem dX5_tellWords_95 : decode cX5_tellWords 95 = .ok (.lconst 0, 1) := by decide +kernel
theorem tX5_tellWords_95 {d : Nat} {l0 l1 l2 : Option Value} {v0 v1 : Value} {m : jmM} {Q : Option Value → jmM → Prop} : AW d 55 95 [l0, l1, l2] [v0, v1] m Q ↔ AW d 55 96 [l0, l1, l2] [.long 0, v0, v1] m Q := A_lconst hB_X5_tellWords dX5_tellWords_95 (by decide)
theorem dX5_tellWords_96 : decode cX5_tellWords 96 = .ok (.goto 21, 3) := by decide +kernel
theorem tX5_tellWords_96 {d : Nat} {l0 l1 l2 : Option Value} {v0 v1 v2 : Value} {m : jmM} {Q : Option Value → jmM → Prop} : AW d 55 96 [l0, l1, l2] [v0, v1, v2] m Q ↔ AW d 55 117 [l0, l1, l2] [v0, v1, v2] m Q := A_goto hB_X5_tellWords dX5_tellWords_96 (by decide)
theorem dX5_tellWords_99 : decode cX5_tellWords 99 = .ok (.aload_n 0, 1) := by decide +kernel
theorem tX5_tellWords_99 {d : Nat} {l1 l2 : Option Value} {v0 v1 : Value} {x : Nat} {m : jmM} {Q : Option Value → jmM → Prop} : AW d 55 99 [some (.ref x), l1, l2] [v0, v1] m Q ↔ AW d 55 100 [some (.ref x), l1, l2] [.ref x, v0, v1] m Q := A_aload_n hB_X5_tellWords dX5_tellWords_99 rfl
theorem dX5_tellWords_100 : decode cX5_tellWords 100 = .ok (.getfield 33, 3) := by decide +kernel
theorem tX5_tellWords_100 {d : Nat} {l0 l1 l2 : Option Value} {v1 v2 : Value} {a : Nat} {m : jmM} {Q : Option Value → jmM → Prop} : AW d 55 100 [l0, l1, l2] [.ref a, v1, v2] m Q ↔ (mS m a).1 = 5 ∧ AW d 55 103 [l0, l1, l2] [.int (mI m a 5), v1, v2] m Q := A_getfield (f := fun m a => .int (mI m a 5)) hB_X5_tellWords dX5_tellWords_100 hO_X5_tellWords fF_5_33 rfl
theorem dX5_tellWords_103 : decode cX5_tellWords 103 = .ok (.i2l, 1) := by decide +kernel
theorem tX5_tellWords_103 {d : Nat} {l0 l1 l2 : Option Value} {v1 v2 : Value} {x : Int32} {m : jmM} {Q : Option Value → jmM → Prop} : AW d 55 103 [l0, l1, l2] [.int x, v1, v2] m Q ↔ AW d 55 104 [l0, l1, l2] [.long x.toInt64, v1, v2] m Q := A_i2l hB_X5_tellWords dX5_tellWords_103
theorem dX5_tellWords_104 : decode cX5_tellWords 104 = .ok (.ldc2_w 159, 3) := by decide +kernel
theorem tX5_tellWords_104 {d : Nat} {l0 l1 l2 : Option Value} {v0 v1 v2 : Value} {m : jmM} {Q : Option Value → jmM → Prop} : AW d 55 104 [l0, l1, l2] [v0, v1, v2] m Q ↔ AW d 55 107 [l0, l1, l2] [.long 1000, v0, v1, v2] m Q := A_ldc2_w hB_X5_tellWords dX5_tellWords_104 hO_X5_tellWords fL2_5_159
theorem dX5_tellWords_107 : decode cX5_tellWords 107 = .ok (.lmul, 1) := by decide +kernel
theorem tX5_tellWords_107 {d : Nat} {l0 l1 l2 : Option Value} {v2 v3 : Value} {x y : Int64} {m : jmM} {Q : Option Value → jmM → Prop} : AW d 55 107 [l0, l1, l2] [.long y, .long x, v2, v3] m Q ↔ AW d 55 108 [l0, l1, l2] [.long (x * y), v2, v3] m Q := A_lmul hB_X5_tellWords dX5_tellWords_107
theorem dX5_tellWords_108 : decode cX5_tellWords 108 = .ok (.aload_n 0, 1) := by decide +kernel
theorem tX5_tellWords_108 {d : Nat} {l1 l2 : Option Value} {v0 v1 v2 : Value} {x : Nat} {m : jmM} {Q : Option Value → jmM → Prop} : AW d 55 108 [some (.ref x), l1, l2] [v0, v1, v2] m Q ↔ AW d 55 109 [some (.ref x), l1, l2] [.ref x, v0, v1, v2] m Q := A_aload_n hB_X5_tellWords dX5_tellWords_108 rfl
theorem dX5_tellWords_109 : decode cX5_tellWords 109 = .ok (.getfield 12, 3) := by decide +kernel
theorem tX5_tellWords_109 {d : Nat} {l0 l1 l2 : Option Value} {v1 v2 v3 : Value} {a : Nat} {m : jmM} {Q : Option Value → jmM → Prop} : AW d 55 109 [l0, l1, l2] [.ref a, v1, v2, v3] m Q ↔ (mS m a).1 = 5 ∧ AW d 55 112 [l0, l1, l2] [va_rf (mR m a 0), v1, v2, v3] m Q := A_getfield (f := fun m a => va_rf (mR m a 0)) hB_X5_tellWords dX5_tellWords_109 hO_X5_tellWords fF_5_12 rfl
theorem dX5_tellWords_112 : decode cX5_tellWords 112 = .ok (.invokevirtual 78, 3) := by decide +kernel
theorem tX5_tellWords_112 {d : Nat} {l0 l1 l2 : Option Value} {v1 v2 v3 : Value} {a : Nat} {m : jmM} {Q : Option Value → jmM → Prop} : AW d 55 112 [l0, l1, l2] [.ref a, v1, v2, v3] m Q ↔ (mS m a).1 = 8 ∧ CC d 122 [.ref a] m (jK d 55 115 [l0, l1, l2] [v1, v2, v3] Q) := A_callV hB_X5_tellWords dX5_tellWords_112 hO_X5_tellWords fS_5_78 ⟨Nat.le_of_ble_eq_true rfl, Nat.le_of_ble_eq_true rfl⟩ rfl rfl rfl
theorem dX5_tellWords_115 : decode cX5_tellWords 115 = .ok (.i2l, 1) := by decide +kernel
theorem tX5_tellWords_115 {d : Nat} {l0 l1 l2 : Option Value} {v1 v2 v3 : Value} {x : Int32} {m : jmM} {Q : Option Value → jmM → Prop} : AW d 55 115 [l0, l1, l2] [.int x, v1, v2, v3] m Q ↔ AW d 55 116 [l0, l1, l2] [.long x.toInt64, v1, v2, v3] m Q := A_i2l hB_X5_tellWords dX5_tellWords_115
theorem dX5_tellWords_116 : decode cX5_tellWords 116 = .ok (.ldiv, 1) := by decide +kernel
theorem tX5_tellWords_116 {d : Nat} {l0 l1 l2 : Option Value} {v2 v3 : Value} {x y : Int64} {m : jmM} {Q : Option Value → jmM → Prop} : AW d 55 116 [l0, l1, l2] [.long y, .long x, v2, v3] m Q ↔ ¬ y = 0 ∧ AW d 55 117 [l0, l1, l2] [.long (x / y), v2, v3] m Q := A_ldiv hB_X5_tellWords dX5_tellWords_116
theorem dX5_tellWords_117 : decode cX5_tellWords 117 = .ok (.invokevirtual 135, 3) := by decide +kernel
theorem tX5_tellWords_117 {d : Nat} {l0 l1 l2 : Option Value} {y0 y1 : Value} {a : Nat} {m : jmM} {Q : Option Value → jmM → Prop} : AW d 55 117 [l0, l1, l2] [y0, y1, .ref a] m Q ↔ (mS m a).1 = 1 ∧ CC d 11 [.ref a, y1, y0] m (jK d 55 120 [l0, l1, l2] [] Q) := A_callV hB_X5_tellWords dX5_tellWords_117 hO_X5_tellWords fS_5_135 ⟨Nat.le_of_ble_eq_true rfl, Nat.le_of_ble_eq_true rfl⟩ rfl rfl rfl
theorem dX5_tellWords_120 : decode cX5_tellWords 120 = .ok (.aload_n 1, 1) := by decide +kernel
theorem tX5_tellWords_120 {d : Nat} {l0 l2 : Option Value} {x : Nat} {m : jmM} {Q : Option Value → jmM → Prop} : AW d 55 120 [l0, some (.ref x), l2] [] m Q ↔ AW d 55 121 [l0, some (.ref x), l2] [.ref x] m Q := A_aload_n hB_X5_tellWords dX5_tellWords_120 rfl
theorem dX5_tellWords_121 : decode cX5_tellWords 121 = .ok (.bipush 7, 2) := by decide +kernel
theorem tX5_tellWords_121 {d : Nat} {l0 l1 l2 : Option Value} {v0 : Value} {m : jmM} {Q : Option Value → jmM → Prop} : AW d 55 121 [l0, l1, l2] [v0] m Q ↔ AW d 55 123 [l0, l1, l2] [.int 7, v0] m Q := A_bipush hB_X5_tellWords dX5_tellWords_121 rfl
theorem dX5_tellWords_123 : decode cX5_tellWords 123 = .ok (.aload_n 0, 1) := by decide +kernel
theorem tX5_tellWords_123 {d : Nat} {l1 l2 : Option Value} {v0 v1 : Value} {x : Nat} {m : jmM} {Q : Option Value → jmM → Prop} : AW d 55 123 [some (.ref x), l1, l2] [v0, v1] m Q ↔ AW d 55 124 [some (.ref x), l1, l2] [.ref x, v0, v1] m Q := A_aload_n hB_X5_tellWords dX5_tellWords_123 rfl
theorem dX5_tellWords_124 : decode cX5_tellWords 124 = .ok (.getfield 45, 3) := by decide +kernel
theorem tX5_tellWords_124 {d : Nat} {l0 l1 l2 : Option Value} {v1 v2 : Value} {a : Nat} {m : jmM} {Q : Option Value → jmM → Prop} : AW d 55 124 [l0, l1, l2] [.ref a, v1, v2] m Q ↔ (mS m a).1 = 5 ∧ AW d 55 127 [l0, l1, l2] [.int (mI m a 9), v1, v2] m Q := A_getfield (f := fun m a => .int (mI m a 9)) hB_X5_tellWords dX5_tellWords_124 hO_X5_tellWords fF_5_45 rfl
theorem dX5_tellWords_127 : decode cX5_tellWords 127 = .ok (.i2l, 1) := by decide +kernel
theorem tX5_tellWords_127 {d : Nat} {l0 l1 l2 : Option Value} {v1 v2 : Value} {x : Int32} {m : jmM} {Q : Option Value → jmM → Prop} : AW d 55 127 [l0, l1, l2] [.int x, v1, v2] m Q ↔ AW d 55 128 [l0, l1, l2] [.long x.toInt64, v1, v2] m Q := A_i2l hB_X5_tellWords dX5_tellWords_127
theorem dX5_tellWords_128 : decode cX5_tellWords 128 = .ok (.invokevirtual 135, 3) := by decide +kernel
theorem tX5_tellWords_128 {d : Nat} {l0 l1 l2 : Option Value} {y0 y1 : Value} {a : Nat} {m : jmM} {Q : Option Value → jmM → Prop} : AW d 55 128 [l0, l1, l2] [y0, y1, .ref a] m Q ↔ (mS m a).1 = 1 ∧ CC d 11 [.ref a, y1, y0] m (jK d 55 131 [l0, l1, l2] [] Q) := A_callV hB_X5_tellWords dX5_tellWords_128 hO_X5_tellWords fS_5_135 ⟨Nat.le_of_ble_eq_true rfl, Nat.le_of_ble_eq_true rfl⟩ rfl rfl rfl
theorem dX5_tellWords_131 : decode cX5_tellWords 131 = .ok (.aload_n 1, 1) := by decide +kernel
theorem tX5_tellWords_131 {d : Nat} {l0 l2 : Option Value} {x : Nat} {m : jmM} {Q : Option Value → jmM → Prop} : AW d 55 131 [l0, some (.ref x), l2] [] m Q ↔ AW d 55 132 [l0, some (.ref x), l2] [.ref x] m Q := A_aload_n hB_X5_tellWords dX5_tellWords_131 rfl
theorem dX5_tellWords_132 : decode cX5_tellWords 132 = .ok (.bipush 8, 2) := by decide +kernel
theorem tX5_tellWords_132 {d : Nat} {l0 l1 l2 : Option Value} {v0 : Value} {m : jmM} {Q : Option Value → jmM → Prop} : AW d 55 132 [l0, l1, l2] [v0] m Q ↔ AW d 55 134 [l0, l1, l2] [.int 8, v0] m Q := A_bipush hB_X5_tellWords dX5_tellWords_132 rfl
theorem dX5_tellWords_134 : decode cX5_tellWords 134 = .ok (.aload_n 0, 1) := by decide +kernel
theorem tX5_tellWords_134 {d : Nat} {l1 l2 : Option Value} {v0 v1 : Value} {x : Nat} {m : jmM} {Q : Option Value → jmM → Prop} : AW d 55 134 [some (.ref x), l1, l2] [v0, v1] m Q ↔ AW d 55 135 [some (.ref x), l1, l2] [.ref x, v0, v1] m Q := A_aload_n hB_X5_tellWords dX5_tellWords_134 rfl
theorem dX5_tellWords_135 : decode cX5_tellWords 135 = .ok (.getfield 36, 3) := by decide +kernel
theorem tX5_tellWords_135 {d : Nat} {l0 l1 l2 : Option Value} {v1 v2 : Value} {a : Nat} {m : jmM} {Q : Option Value → jmM → Prop} : AW d 55 135 [l0, l1, l2] [.ref a, v1, v2] m Q ↔ (mS m a).1 = 5 ∧ AW d 55 138 [l0, l1, l2] [.int (mI m a 6), v1, v2] m Q := A_getfield (f := fun m a => .int (mI m a 6)) hB_X5_tellWords dX5_tellWords_135 hO_X5_tellWords fF_5_36 rfl
theorem dX5_tellWords_138 : decode cX5_tellWords 138 = .ok (.i2l, 1) := by decide +kernel
theorem tX5_tellWords_138 {d : Nat} {l0 l1 l2 : Option Value} {v1 v2 : Value} {x : Int32} {m : jmM} {Q : Option Value → jmM → Prop} : AW d 55 138 [l0, l1, l2] [.int x, v1, v2] m Q ↔ AW d 55 139 [l0, l1, l2] [.long x.toInt64, v1, v2] m Q := A_i2l hB_X5_tellWords dX5_tellWords_138
theorem dX5_tellWords_139 : decode cX5_tellWords 139 = .ok (.invokevirtual 135, 3) := by decide +kernel
theorem tX5_tellWords_139 {d : Nat} {l0 l1 l2 : Option Value} {y0 y1 : Value} {a : Nat} {m : jmM} {Q : Option Value → jmM → Prop} : AW d 55 139 [l0, l1, l2] [y0, y1, .ref a] m Q ↔ (mS m a).1 = 1 ∧ CC d 11 [.ref a, y1, y0] m (jK d 55 142 [l0, l1, l2] [] Q) := A_callV hB_X5_tellWords dX5_tellWords_139 hO_X5_tellWords fS_5_135 ⟨Nat.le_of_ble_eq_true rfl, Nat.le_of_ble_eq_true rfl⟩ rfl rfl rfl
theorem dX5_tellWords_142 : decode cX5_tellWords 142 = .ok (.return_, 1) := by decide +kernel
theorem tX5_tellWords_142 {d : Nat} {l0 l1 l2 : Option Value} {m : jmM} {Q : Option Value → jmM → Prop} : AW d 55 142 [l0, l1, l2] [] m Q ↔ Q none m := A_return hB_X5_tellWords dX5_tellWords_142 hR_X5_tellWords
theorem hB_X5_wideSeen : jB 56 = cX5_wideSeen := rfl
theorem hO_X5_wideSeen : jO 56 = 5 := rfl
theorem hR_X5_wideSeen : jRt 56 = (some .int) := rfl
theorem nX5_wideSeen (d : Nat) (x0 : Nat) (x1 : Int32) (m : jmM) (Q : Option Value → jmM → Prop) : CC (d + 1) 56 [.ref x0, .int x1] m Q ↔ AW d 56 0 [some (.ref x0), some (.int x1)] [] m Q := CC_body (Nat.le_of_ble_eq_true rfl)
theorem dX5_wideSeen_0 : decode cX5_wideSeen 0 = .ok (.aload_n 0, 1) := by decide +kernel
theorem tX5_wideSeen_0 {d : Nat} {l1 : Option Value} {x : Nat} {m : jmM} {Q : Option Value → jmM → Prop} : AW d 56 0 [some (.ref x), l1] [] m Q ↔ AW d 56 1 [some (.ref x), l1] [.ref x] m Q := A_aload_n hB_X5_wideSeen dX5_wideSeen_0 rfl
theorem dX5_wideSeen_1 : decode cX5_wideSeen 1 = .ok (.iload_n 1, 1) := by decide +kernel
theorem tX5_wideSeen_1 {d : Nat} {l0 : Option Value} {v0 : Value} {x : Int32} {m : jmM} {Q : Option Value → jmM → Prop} : AW d 56 1 [l0, some (.int x)] [v0] m Q ↔ AW d 56 2 [l0, some (.int x)] [.int x, v0] m Q := A_iload_n hB_X5_wideSeen dX5_wideSeen_1 rfl
theorem dX5_wideSeen_2 : decode cX5_wideSeen 2 = .ok (.invokevirtual 161, 3) := by decide +kernel
theorem tX5_wideSeen_2 {d : Nat} {l0 l1 : Option Value} {y0 : Value} {a : Nat} {m : jmM} {Q : Option Value → jmM → Prop} : AW d 56 2 [l0, l1] [y0, .ref a] m Q ↔ (mS m a).1 = 5 ∧ CC d 72 [.ref a, y0] m (jK d 56 5 [l0, l1] [] Q) := A_callV hB_X5_wideSeen dX5_wideSeen_2 hO_X5_wideSeen fS_5_161 ⟨Nat.le_of_ble_eq_true rfl, Nat.le_of_ble_eq_true rfl⟩ rfl rfl rfl
theorem dX5_wideSeen_5 : decode cX5_wideSeen 5 = .ok (.ifCond .eq 12, 3) := by decide +kernel
theorem tX5_wideSeen_5 {d : Nat} {l0 l1 : Option Value} {x : Int32} {m : jmM} {Q : Option Value → jmM → Prop} : AW d 56 5 [l0, l1] [.int x] m Q ↔ if x = 0 then AW d 56 17 [l0, l1] [] m Q else AW d 56 8 [l0, l1] [] m Q := A_if_eq hB_X5_wideSeen dX5_wideSeen_5 (by decide)
theorem dX5_wideSeen_8 : decode cX5_wideSeen 8 = .ok (.aload_n 0, 1) := by decide +kernel
theorem tX5_wideSeen_8 {d : Nat} {l1 : Option Value} {x : Nat} {m : jmM} {Q : Option Value → jmM → Prop} : AW d 56 8 [some (.ref x), l1] [] m Q ↔ AW d 56 9 [some (.ref x), l1] [.ref x] m Q := A_aload_n hB_X5_wideSeen dX5_wideSeen_8 rfl
theorem dX5_wideSeen_9 : decode cX5_wideSeen 9 = .ok (.getfield 54, 3) := by decide +kernel
theorem tX5_wideSeen_9 {d : Nat} {l0 l1 : Option Value} {a : Nat} {m : jmM} {Q : Option Value → jmM → Prop} : AW d 56 9 [l0, l1] [.ref a] m Q ↔ (mS m a).1 = 5 ∧ AW d 56 12 [l0, l1] [va_rf (mR m a 12)] m Q := A_getfield (f := fun m a => va_rf (mR m a 12)) hB_X5_wideSeen dX5_wideSeen_9 hO_X5_wideSeen fF_5_54 rfl
theorem dX5_wideSeen_12 : decode cX5_wideSeen 12 = .ok (.iload_n 1, 1) := by decide +kernel
theorem tX5_wideSeen_12 {d : Nat} {l0 : Option Value} {v0 : Value} {x : Int32} {m : jmM} {Q : Option Value → jmM → Prop} : AW d 56 12 [l0, some (.int x)] [v0] m Q ↔ AW d 56 13 [l0, some (.int x)] [.int x, v0] m Q := A_iload_n hB_X5_wideSeen dX5_wideSeen_12 rfl
theorem dX5_wideSeen_13 : decode cX5_wideSeen 13 = .ok (.iaload, 1) := by decide +kernel
theorem tX5_wideSeen_13 {d : Nat} {l0 l1 : Option Value} {i : Int32} {a : Nat} {m : jmM} {Q : Option Value → jmM → Prop} : AW d 56 13 [l0, l1] [.int i, .ref a] m Q ↔ (((mS m a).1 = 20 ∨ a = jScr) ∧ jIx i (mS m a).2) ∧ AW d 56 14 [l0, l1] [.int (mI m a (jx i))] m Q := A_iaload hB_X5_wideSeen dX5_wideSeen_13
theorem dX5_wideSeen_14 : decode cX5_wideSeen 14 = .ok (.goto 10, 3) := by decide +kernel
theorem tX5_wideSeen_14 {d : Nat} {l0 l1 : Option Value} {v0 : Value} {m : jmM} {Q : Option Value → jmM → Prop} : AW d 56 14 [l0, l1] [v0] m Q ↔ AW d 56 24 [l0, l1] [v0] m Q := A_goto hB_X5_wideSeen dX5_wideSeen_14 (by decide)
theorem dX5_wideSeen_17 : decode cX5_wideSeen 17 = .ok (.aload_n 0, 1) := by decide +kernel
theorem tX5_wideSeen_17 {d : Nat} {l1 : Option Value} {x : Nat} {m : jmM} {Q : Option Value → jmM → Prop} : AW d 56 17 [some (.ref x), l1] [] m Q ↔ AW d 56 18 [some (.ref x), l1] [.ref x] m Q := A_aload_n hB_X5_wideSeen dX5_wideSeen_17 rfl
theorem dX5_wideSeen_18 : decode cX5_wideSeen 18 = .ok (.getfield 12, 3) := by decide +kernel
theorem tX5_wideSeen_18 {d : Nat} {l0 l1 : Option Value} {a : Nat} {m : jmM} {Q : Option Value → jmM → Prop} : AW d 56 18 [l0, l1] [.ref a] m Q ↔ (mS m a).1 = 5 ∧ AW d 56 21 [l0, l1] [va_rf (mR m a 0)] m Q := A_getfield (f := fun m a => va_rf (mR m a 0)) hB_X5_wideSeen dX5_wideSeen_18 hO_X5_wideSeen fF_5_12 rfl
theorem dX5_wideSeen_21 : decode cX5_wideSeen 21 = .ok (.invokevirtual 82, 3) := by decide +kernel
theorem tX5_wideSeen_21 {d : Nat} {l0 l1 : Option Value} {a : Nat} {m : jmM} {Q : Option Value → jmM → Prop} : AW d 56 21 [l0, l1] [.ref a] m Q ↔ (mS m a).1 = 8 ∧ CC d 125 [.ref a] m (jK d 56 24 [l0, l1] [] Q) := A_callV hB_X5_wideSeen dX5_wideSeen_21 hO_X5_wideSeen fS_5_82 ⟨Nat.le_of_ble_eq_true rfl, Nat.le_of_ble_eq_true rfl⟩ rfl rfl rfl
theorem dX5_wideSeen_24 : decode cX5_wideSeen 24 = .ok (.ireturn, 1) := by decide +kernel
theorem tX5_wideSeen_24 {d : Nat} {l0 l1 : Option Value} {x : Int32} {m : jmM} {Q : Option Value → jmM → Prop} : AW d 56 24 [l0, l1] [.int x] m Q ↔ Q (some (.int x)) m := A_ireturn hB_X5_wideSeen dX5_wideSeen_24 hR_X5_wideSeen
theorem hB_X5_swirled : jB 57 = cX5_swirled := rfl
theorem hO_X5_swirled : jO 57 = 5 := rfl
theorem hR_X5_swirled : jRt 57 = (some .long) := rfl
theorem nX5_swirled (d : Nat) (x0 : Nat) (m : jmM) (Q : Option Value → jmM → Prop) : CC (d + 1) 57 [.ref x0] m Q ↔ AW d 57 0 [some (.ref x0), none] [] m Q := CC_body (Nat.le_of_ble_eq_true rfl)
theorem dX5_swirled_0 : decode cX5_swirled 0 = .ok (.aload_n 0, 1) := by decide +kernel
theorem tX5_swirled_0 {d : Nat} {l1 : Option Value} {x : Nat} {m : jmM} {Q : Option Value → jmM → Prop} : AW d 57 0 [some (.ref x), l1] [] m Q ↔ AW d 57 1 [some (.ref x), l1] [.ref x] m Q := A_aload_n hB_X5_swirled dX5_swirled_0 rfl
theorem dX5_swirled_1 : decode cX5_swirled 1 = .ok (.aload_n 0, 1) := by decide +kernel
theorem tX5_swirled_1 {d : Nat} {l1 : Option Value} {v0 : Value} {x : Nat} {m : jmM} {Q : Option Value → jmM → Prop} : AW d 57 1 [some (.ref x), l1] [v0] m Q ↔ AW d 57 2 [some (.ref x), l1] [.ref x, v0] m Q := A_aload_n hB_X5_swirled dX5_swirled_1 rfl
theorem dX5_swirled_2 : decode cX5_swirled 2 = .ok (.getfield 29, 3) := by decide +kernel
theorem tX5_swirled_2 {d : Nat} {l0 l1 : Option Value} {v1 : Value} {a : Nat} {m : jmM} {Q : Option Value → jmM → Prop} : AW d 57 2 [l0, l1] [.ref a, v1] m Q ↔ (mS m a).1 = 5 ∧ AW d 57 5 [l0, l1] [.long (mL m a 4), v1] m Q := A_getfield (f := fun m a => .long (mL m a 4)) hB_X5_swirled dX5_swirled_2 hO_X5_swirled fF_5_29 rfl
theorem dX5_swirled_5 : decode cX5_swirled 5 = .ok (.ldc2_w 165, 3) := by decide +kernel
theorem tX5_swirled_5 {d : Nat} {l0 l1 : Option Value} {v0 v1 : Value} {m : jmM} {Q : Option Value → jmM → Prop} : AW d 57 5 [l0, l1] [v0, v1] m Q ↔ AW d 57 8 [l0, l1] [.long 1103515245, v0, v1] m Q := A_ldc2_w hB_X5_swirled dX5_swirled_5 hO_X5_swirled fL2_5_165
theorem dX5_swirled_8 : decode cX5_swirled 8 = .ok (.lmul, 1) := by decide +kernel
theorem tX5_swirled_8 {d : Nat} {l0 l1 : Option Value} {v2 : Value} {x y : Int64} {m : jmM} {Q : Option Value → jmM → Prop} : AW d 57 8 [l0, l1] [.long y, .long x, v2] m Q ↔ AW d 57 9 [l0, l1] [.long (x * y), v2] m Q := A_lmul hB_X5_swirled dX5_swirled_8
theorem dX5_swirled_9 : decode cX5_swirled 9 = .ok (.ldc2_w 167, 3) := by decide +kernel
theorem tX5_swirled_9 {d : Nat} {l0 l1 : Option Value} {v0 v1 : Value} {m : jmM} {Q : Option Value → jmM → Prop} : AW d 57 9 [l0, l1] [v0, v1] m Q ↔ AW d 57 12 [l0, l1] [.long 12345, v0, v1] m Q := A_ldc2_w hB_X5_swirled dX5_swirled_9 hO_X5_swirled fL2_5_167
theorem dX5_swirled_12 : decode cX5_swirled 12 = .ok (.ladd, 1) := by decide +kernel
theorem tX5_swirled_12 {d : Nat} {l0 l1 : Option Value} {v2 : Value} {x y : Int64} {m : jmM} {Q : Option Value → jmM → Prop} : AW d 57 12 [l0, l1] [.long y, .long x, v2] m Q ↔ AW d 57 13 [l0, l1] [.long (x + y), v2] m Q := A_ladd hB_X5_swirled dX5_swirled_12
theorem dX5_swirled_13 : decode cX5_swirled 13 = .ok (.ldc2_w 169, 3) := by decide +kernel
theorem tX5_swirled_13 {d : Nat} {l0 l1 : Option Value} {v0 v1 : Value} {m : jmM} {Q : Option Value → jmM → Prop} : AW d 57 13 [l0, l1] [v0, v1] m Q ↔ AW d 57 16 [l0, l1] [.long 2147483648, v0, v1] m Q := A_ldc2_w hB_X5_swirled dX5_swirled_13 hO_X5_swirled fL2_5_169
theorem dX5_swirled_16 : decode cX5_swirled 16 = .ok (.lrem, 1) := by decide +kernel
theorem tX5_swirled_16 {d : Nat} {l0 l1 : Option Value} {v2 : Value} {x y : Int64} {m : jmM} {Q : Option Value → jmM → Prop} : AW d 57 16 [l0, l1] [.long y, .long x, v2] m Q ↔ ¬ y = 0 ∧ AW d 57 17 [l0, l1] [.long (x - x / y * y), v2] m Q := A_lrem hB_X5_swirled dX5_swirled_16
theorem dX5_swirled_17 : decode cX5_swirled 17 = .ok (.putfield 29, 3) := by decide +kernel
theorem tX5_swirled_17 {d : Nat} {l0 l1 : Option Value} {x : Int64} {a : Nat} {m : jmM} {Q : Option Value → jmM → Prop} : AW d 57 17 [l0, l1] [.long x, .ref a] m Q ↔ (mS m a).1 = 5 ∧ AW d 57 20 [l0, l1] [] (cL m a (jup (mL m a) 4 x)) Q := A_putL hB_X5_swirled dX5_swirled_17 hO_X5_swirled fF_5_29 rfl (fun h => Bool.noConfusion h)
theorem dX5_swirled_20 : decode cX5_swirled 20 = .ok (.aload_n 0, 1) := by decide +kernel
theorem tX5_swirled_20 {d : Nat} {l1 : Option Value} {x : Nat} {m : jmM} {Q : Option Value → jmM → Prop} : AW d 57 20 [some (.ref x), l1] [] m Q ↔ AW d 57 21 [some (.ref x), l1] [.ref x] m Q := A_aload_n hB_X5_swirled dX5_swirled_20 rfl
theorem dX5_swirled_21 : decode cX5_swirled 21 = .ok (.getfield 18, 3) := by decide +kernel
theorem tX5_swirled_21 {d : Nat} {l0 l1 : Option Value} {a : Nat} {m : jmM} {Q : Option Value → jmM → Prop} : AW d 57 21 [l0, l1] [.ref a] m Q ↔ (mS m a).1 = 5 ∧ AW d 57 24 [l0, l1] [va_rf (mR m a 1)] m Q := A_getfield (f := fun m a => va_rf (mR m a 1)) hB_X5_swirled dX5_swirled_21 hO_X5_swirled fF_5_18 rfl
theorem dX5_swirled_24 : decode cX5_swirled 24 = .ok (.invokevirtual 171, 3) := by decide +kernel
theorem tX5_swirled_24 {d : Nat} {l0 l1 : Option Value} {a : Nat} {m : jmM} {Q : Option Value → jmM → Prop} : AW d 57 24 [l0, l1] [.ref a] m Q ↔ (mS m a).1 = 3 ∧ CC d 33 [.ref a] m (jK d 57 27 [l0, l1] [] Q) := A_callV hB_X5_swirled dX5_swirled_24 hO_X5_swirled fS_5_171 ⟨Nat.le_of_ble_eq_true rfl, Nat.le_of_ble_eq_true rfl⟩ rfl rfl rfl
theorem dX5_swirled_27 : decode cX5_swirled 27 = .ok (.istore_n 1, 1) := by decide +kernel
theorem tX5_swirled_27 {d : Nat} {l0 l1 : Option Value} {x : Int32} {m : jmM} {Q : Option Value → jmM → Prop} : AW d 57 27 [l0, l1] [.int x] m Q ↔ AW d 57 28 [jc1 l0, some (.int x)] [] m Q := A_istore_n hB_X5_swirled dX5_swirled_27 (Nat.le_of_ble_eq_true rfl) rfl
theorem dX5_swirled_28 : decode cX5_swirled 28 = .ok (.aload_n 0, 1) := by decide +kernel
theorem tX5_swirled_28 {d : Nat} {l1 : Option Value} {x : Nat} {m : jmM} {Q : Option Value → jmM → Prop} : AW d 57 28 [some (.ref x), l1] [] m Q ↔ AW d 57 29 [some (.ref x), l1] [.ref x] m Q := A_aload_n hB_X5_swirled dX5_swirled_28 rfl
theorem dX5_swirled_29 : decode cX5_swirled 29 = .ok (.getfield 29, 3) := by decide +kernel
theorem tX5_swirled_29 {d : Nat} {l0 l1 : Option Value} {a : Nat} {m : jmM} {Q : Option Value → jmM → Prop} : AW d 57 29 [l0, l1] [.ref a] m Q ↔ (mS m a).1 = 5 ∧ AW d 57 32 [l0, l1] [.long (mL m a 4)] m Q := A_getfield (f := fun m a => .long (mL m a 4)) hB_X5_swirled dX5_swirled_29 hO_X5_swirled fF_5_29 rfl
theorem dX5_swirled_32 : decode cX5_swirled 32 = .ok (.ldc2_w 174, 3) := by decide +kernel
theorem tX5_swirled_32 {d : Nat} {l0 l1 : Option Value} {v0 : Value} {m : jmM} {Q : Option Value → jmM → Prop} : AW d 57 32 [l0, l1] [v0] m Q ↔ AW d 57 35 [l0, l1] [.long 65536, v0] m Q := A_ldc2_w hB_X5_swirled dX5_swirled_32 hO_X5_swirled fL2_5_174
theorem dX5_swirled_35 : decode cX5_swirled 35 = .ok (.ldiv, 1) := by decide +kernel
theorem tX5_swirled_35 {d : Nat} {l0 l1 : Option Value} {x y : Int64} {m : jmM} {Q : Option Value → jmM → Prop} : AW d 57 35 [l0, l1] [.long y, .long x] m Q ↔ ¬ y = 0 ∧ AW d 57 36 [l0, l1] [.long (x / y)] m Q := A_ldiv hB_X5_swirled dX5_swirled_35
theorem dX5_swirled_36 : decode cX5_swirled 36 = .ok (.iconst 2, 1) := by decide +kernel
theorem tX5_swirled_36 {d : Nat} {l0 l1 : Option Value} {v0 : Value} {m : jmM} {Q : Option Value → jmM → Prop} : AW d 57 36 [l0, l1] [v0] m Q ↔ AW d 57 37 [l0, l1] [.int 2, v0] m Q := A_iconst hB_X5_swirled dX5_swirled_36 (by decide)
theorem dX5_swirled_37 : decode cX5_swirled 37 = .ok (.iload_n 1, 1) := by decide +kernel
theorem tX5_swirled_37 {d : Nat} {l0 : Option Value} {v0 v1 : Value} {x : Int32} {m : jmM} {Q : Option Value → jmM → Prop} : AW d 57 37 [l0, some (.int x)] [v0, v1] m Q ↔ AW d 57 38 [l0, some (.int x)] [.int x, v0, v1] m Q := A_iload_n hB_X5_swirled dX5_swirled_37 rfl
theorem dX5_swirled_38 : decode cX5_swirled 38 = .ok (.imul, 1) := by decide +kernel
theorem tX5_swirled_38 {d : Nat} {l0 l1 : Option Value} {v2 : Value} {x y : Int32} {m : jmM} {Q : Option Value → jmM → Prop} : AW d 57 38 [l0, l1] [.int y, .int x, v2] m Q ↔ AW d 57 39 [l0, l1] [.int (x * y), v2] m Q := A_imul hB_X5_swirled dX5_swirled_38
theorem dX5_swirled_39 : decode cX5_swirled 39 = .ok (.iconst 1, 1) := by decide +kernel
theorem tX5_swirled_39 {d : Nat} {l0 l1 : Option Value} {v0 v1 : Value} {m : jmM} {Q : Option Value → jmM → Prop} : AW d 57 39 [l0, l1] [v0, v1] m Q ↔ AW d 57 40 [l0, l1] [.int 1, v0, v1] m Q := A_iconst hB_X5_swirled dX5_swirled_39 (by decide)
theorem dX5_swirled_40 : decode cX5_swirled 40 = .ok (.iadd, 1) := by decide +kernel
theorem tX5_swirled_40 {d : Nat} {l0 l1 : Option Value} {v2 : Value} {x y : Int32} {m : jmM} {Q : Option Value → jmM → Prop} : AW d 57 40 [l0, l1] [.int y, .int x, v2] m Q ↔ AW d 57 41 [l0, l1] [.int (x + y), v2] m Q := A_iadd hB_X5_swirled dX5_swirled_40
theorem dX5_swirled_41 : decode cX5_swirled 41 = .ok (.i2l, 1) := by decide +kernel
theorem tX5_swirled_41 {d : Nat} {l0 l1 : Option Value} {v1 : Value} {x : Int32} {m : jmM} {Q : Option Value → jmM → Prop} : AW d 57 41 [l0, l1] [.int x, v1] m Q ↔ AW d 57 42 [l0, l1] [.long x.toInt64, v1] m Q := A_i2l hB_X5_swirled dX5_swirled_41
theorem dX5_swirled_42 : decode cX5_swirled 42 = .ok (.lrem, 1) := by decide +kernel
theorem tX5_swirled_42 {d : Nat} {l0 l1 : Option Value} {x y : Int64} {m : jmM} {Q : Option Value → jmM → Prop} : AW d 57 42 [l0, l1] [.long y, .long x] m Q ↔ ¬ y = 0 ∧ AW d 57 43 [l0, l1] [.long (x - x / y * y)] m Q := A_lrem hB_X5_swirled dX5_swirled_42
theorem dX5_swirled_43 : decode cX5_swirled 43 = .ok (.iload_n 1, 1) := by decide +kernel
theorem tX5_swirled_43 {d : Nat} {l0 : Option Value} {v0 : Value} {x : Int32} {m : jmM} {Q : Option Value → jmM → Prop} : AW d 57 43 [l0, some (.int x)] [v0] m Q ↔ AW d 57 44 [l0, some (.int x)] [.int x, v0] m Q := A_iload_n hB_X5_swirled dX5_swirled_43 rfl
theorem dX5_swirled_44 : decode cX5_swirled 44 = .ok (.i2l, 1) := by decide +kernel
theorem tX5_swirled_44 {d : Nat} {l0 l1 : Option Value} {v1 : Value} {x : Int32} {m : jmM} {Q : Option Value → jmM → Prop} : AW d 57 44 [l0, l1] [.int x, v1] m Q ↔ AW d 57 45 [l0, l1] [.long x.toInt64, v1] m Q := A_i2l hB_X5_swirled dX5_swirled_44
theorem dX5_swirled_45 : decode cX5_swirled 45 = .ok (.lsub, 1) := by decide +kernel
theorem tX5_swirled_45 {d : Nat} {l0 l1 : Option Value} {x y : Int64} {m : jmM} {Q : Option Value → jmM → Prop} : AW d 57 45 [l0, l1] [.long y, .long x] m Q ↔ AW d 57 46 [l0, l1] [.long (x - y)] m Q := A_lsub hB_X5_swirled dX5_swirled_45
theorem dX5_swirled_46 : decode cX5_swirled 46 = .ok (.lreturn, 1) := by decide +kernel
theorem tX5_swirled_46 {d : Nat} {l0 l1 : Option Value} {x : Int64} {m : jmM} {Q : Option Value → jmM → Prop} : AW d 57 46 [l0, l1] [.long x] m Q ↔ Q (some (.long x)) m := A_lreturn hB_X5_swirled dX5_swirled_46 hR_X5_swirled
theorem hB_X5_addRow : jB 58 = cX5_addRow := rfl
theorem hO_X5_addRow : jO 58 = 5 := rfl
theorem hR_X5_addRow : jRt 58 = none := rfl
theorem nX5_addRow (d : Nat) (x0 : Nat) (m : jmM) (Q : Option Value → jmM → Prop) : CC (d + 1) 58 [.ref x0] m Q ↔ AW d 58 0 [some (.ref x0), none, none, none, none] [] m Q := CC_body (Nat.le_of_ble_eq_true rfl)
theorem dX5_addRow_0 : decode cX5_addRow 0 = .ok (.aload_n 0, 1) := by decide +kernel
theorem tX5_addRow_0 {d : Nat} {l1 l2 l3 l4 : Option Value} {x : Nat} {m : jmM} {Q : Option Value → jmM → Prop} : AW d 58 0 [some (.ref x), l1, l2, l3, l4] [] m Q ↔ AW d 58 1 [some (.ref x), l1, l2, l3, l4] [.ref x] m Q := A_aload_n hB_X5_addRow dX5_addRow_0 rfl
theorem dX5_addRow_1 : decode cX5_addRow 1 = .ok (.getfield 33, 3) := by decide +kernel
theorem tX5_addRow_1 {d : Nat} {l0 l1 l2 l3 l4 : Option Value} {a : Nat} {m : jmM} {Q : Option Value → jmM → Prop} : AW d 58 1 [l0, l1, l2, l3, l4] [.ref a] m Q ↔ (mS m a).1 = 5 ∧ AW d 58 4 [l0, l1, l2, l3, l4] [.int (mI m a 5)] m Q := A_getfield (f := fun m a => .int (mI m a 5)) hB_X5_addRow dX5_addRow_1 hO_X5_addRow fF_5_33 rfl
theorem dX5_addRow_4 : decode cX5_addRow 4 = .ok (.i2l, 1) := by decide +kernel
theorem tX5_addRow_4 {d : Nat} {l0 l1 l2 l3 l4 : Option Value} {x : Int32} {m : jmM} {Q : Option Value → jmM → Prop} : AW d 58 4 [l0, l1, l2, l3, l4] [.int x] m Q ↔ AW d 58 5 [l0, l1, l2, l3, l4] [.long x.toInt64] m Q := A_i2l hB_X5_addRow dX5_addRow_4
theorem dX5_addRow_5 : decode cX5_addRow 5 = .ok (.aload_n 0, 1) := by decide +kernel
theorem tX5_addRow_5 {d : Nat} {l1 l2 l3 l4 : Option Value} {v0 : Value} {x : Nat} {m : jmM} {Q : Option Value → jmM → Prop} : AW d 58 5 [some (.ref x), l1, l2, l3, l4] [v0] m Q ↔ AW d 58 6 [some (.ref x), l1, l2, l3, l4] [.ref x, v0] m Q := A_aload_n hB_X5_addRow dX5_addRow_5 rfl
theorem dX5_addRow_6 : decode cX5_addRow 6 = .ok (.getfield 42, 3) := by decide +kernel
theorem tX5_addRow_6 {d : Nat} {l0 l1 l2 l3 l4 : Option Value} {v1 : Value} {a : Nat} {m : jmM} {Q : Option Value → jmM → Prop} : AW d 58 6 [l0, l1, l2, l3, l4] [.ref a, v1] m Q ↔ (mS m a).1 = 5 ∧ AW d 58 9 [l0, l1, l2, l3, l4] [.int (mI m a 8), v1] m Q := A_getfield (f := fun m a => .int (mI m a 8)) hB_X5_addRow dX5_addRow_6 hO_X5_addRow fF_5_42 rfl
theorem dX5_addRow_9 : decode cX5_addRow 9 = .ok (.i2l, 1) := by decide +kernel
theorem tX5_addRow_9 {d : Nat} {l0 l1 l2 l3 l4 : Option Value} {v1 : Value} {x : Int32} {m : jmM} {Q : Option Value → jmM → Prop} : AW d 58 9 [l0, l1, l2, l3, l4] [.int x, v1] m Q ↔ AW d 58 10 [l0, l1, l2, l3, l4] [.long x.toInt64, v1] m Q := A_i2l hB_X5_addRow dX5_addRow_9
theorem dX5_addRow_10 : decode cX5_addRow 10 = .ok (.aload_n 0, 1) := by decide +kernel
theorem tX5_addRow_10 {d : Nat} {l1 l2 l3 l4 : Option Value} {v0 v1 : Value} {x : Nat} {m : jmM} {Q : Option Value → jmM → Prop} : AW d 58 10 [some (.ref x), l1, l2, l3, l4] [v0, v1] m Q ↔ AW d 58 11 [some (.ref x), l1, l2, l3, l4] [.ref x, v0, v1] m Q := A_aload_n hB_X5_addRow dX5_addRow_10 rfl
theorem dX5_addRow_11 : decode cX5_addRow 11 = .ok (.getfield 36, 3) := by decide +kernel
theorem tX5_addRow_11 {d : Nat} {l0 l1 l2 l3 l4 : Option Value} {v1 v2 : Value} {a : Nat} {m : jmM} {Q : Option Value → jmM → Prop} : AW d 58 11 [l0, l1, l2, l3, l4] [.ref a, v1, v2] m Q ↔ (mS m a).1 = 5 ∧ AW d 58 14 [l0, l1, l2, l3, l4] [.int (mI m a 6), v1, v2] m Q := A_getfield (f := fun m a => .int (mI m a 6)) hB_X5_addRow dX5_addRow_11 hO_X5_addRow fF_5_36 rfl
theorem dX5_addRow_14 : decode cX5_addRow 14 = .ok (.i2l, 1) := by decide +kernel
theorem tX5_addRow_14 {d : Nat} {l0 l1 l2 l3 l4 : Option Value} {v1 v2 : Value} {x : Int32} {m : jmM} {Q : Option Value → jmM → Prop} : AW d 58 14 [l0, l1, l2, l3, l4] [.int x, v1, v2] m Q ↔ AW d 58 15 [l0, l1, l2, l3, l4] [.long x.toInt64, v1, v2] m Q := A_i2l hB_X5_addRow dX5_addRow_14
theorem dX5_addRow_15 : decode cX5_addRow 15 = .ok (.lmul, 1) := by decide +kernel
theorem tX5_addRow_15 {d : Nat} {l0 l1 l2 l3 l4 : Option Value} {v2 : Value} {x y : Int64} {m : jmM} {Q : Option Value → jmM → Prop} : AW d 58 15 [l0, l1, l2, l3, l4] [.long y, .long x, v2] m Q ↔ AW d 58 16 [l0, l1, l2, l3, l4] [.long (x * y), v2] m Q := A_lmul hB_X5_addRow dX5_addRow_15
theorem dX5_addRow_16 : decode cX5_addRow 16 = .ok (.aload_n 0, 1) := by decide +kernel
theorem tX5_addRow_16 {d : Nat} {l1 l2 l3 l4 : Option Value} {v0 v1 : Value} {x : Nat} {m : jmM} {Q : Option Value → jmM → Prop} : AW d 58 16 [some (.ref x), l1, l2, l3, l4] [v0, v1] m Q ↔ AW d 58 17 [some (.ref x), l1, l2, l3, l4] [.ref x, v0, v1] m Q := A_aload_n hB_X5_addRow dX5_addRow_16 rfl
theorem dX5_addRow_17 : decode cX5_addRow 17 = .ok (.getfield 36, 3) := by decide +kernel
theorem tX5_addRow_17 {d : Nat} {l0 l1 l2 l3 l4 : Option Value} {v1 v2 : Value} {a : Nat} {m : jmM} {Q : Option Value → jmM → Prop} : AW d 58 17 [l0, l1, l2, l3, l4] [.ref a, v1, v2] m Q ↔ (mS m a).1 = 5 ∧ AW d 58 20 [l0, l1, l2, l3, l4] [.int (mI m a 6), v1, v2] m Q := A_getfield (f := fun m a => .int (mI m a 6)) hB_X5_addRow dX5_addRow_17 hO_X5_addRow fF_5_36 rfl
theorem dX5_addRow_20 : decode cX5_addRow 20 = .ok (.i2l, 1) := by decide +kernel
theorem tX5_addRow_20 {d : Nat} {l0 l1 l2 l3 l4 : Option Value} {v1 v2 : Value} {x : Int32} {m : jmM} {Q : Option Value → jmM → Prop} : AW d 58 20 [l0, l1, l2, l3, l4] [.int x, v1, v2] m Q ↔ AW d 58 21 [l0, l1, l2, l3, l4] [.long x.toInt64, v1, v2] m Q := A_i2l hB_X5_addRow dX5_addRow_20
theorem dX5_addRow_21 : decode cX5_addRow 21 = .ok (.lmul, 1) := by decide +kernel
theorem tX5_addRow_21 {d : Nat} {l0 l1 l2 l3 l4 : Option Value} {v2 : Value} {x y : Int64} {m : jmM} {Q : Option Value → jmM → Prop} : AW d 58 21 [l0, l1, l2, l3, l4] [.long y, .long x, v2] m Q ↔ AW d 58 22 [l0, l1, l2, l3, l4] [.long (x * y), v2] m Q := A_lmul hB_X5_addRow dX5_addRow_21
theorem dX5_addRow_22 : decode cX5_addRow 22 = .ok (.ldc2_w 176, 3) := by decide +kernel
theorem tX5_addRow_22 {d : Nat} {l0 l1 l2 l3 l4 : Option Value} {v0 v1 : Value} {m : jmM} {Q : Option Value → jmM → Prop} : AW d 58 22 [l0, l1, l2, l3, l4] [v0, v1] m Q ↔ AW d 58 25 [l0, l1, l2, l3, l4] [.long 100000, v0, v1] m Q := A_ldc2_w hB_X5_addRow dX5_addRow_22 hO_X5_addRow fL2_5_176
theorem dX5_addRow_25 : decode cX5_addRow 25 = .ok (.ldiv, 1) := by decide +kernel
theorem tX5_addRow_25 {d : Nat} {l0 l1 l2 l3 l4 : Option Value} {v2 : Value} {x y : Int64} {m : jmM} {Q : Option Value → jmM → Prop} : AW d 58 25 [l0, l1, l2, l3, l4] [.long y, .long x, v2] m Q ↔ ¬ y = 0 ∧ AW d 58 26 [l0, l1, l2, l3, l4] [.long (x / y), v2] m Q := A_ldiv hB_X5_addRow dX5_addRow_25
theorem dX5_addRow_26 : decode cX5_addRow 26 = .ok (.invokestatic 178, 3) := by decide +kernel
theorem tX5_addRow_26 {d : Nat} {l0 l1 l2 l3 l4 : Option Value} {x y : Int64} {m : jmM} {Q : Option Value → jmM → Prop} : AW d 58 26 [l0, l1, l2, l3, l4] [.long y, .long x] m Q ↔ AW d 58 29 [l0, l1, l2, l3, l4] [.long (if y < x then y else x)] m Q := A_minl hB_X5_addRow dX5_addRow_26 hO_X5_addRow fS_5_178 (Nat.le_of_ble_eq_true rfl)
theorem dX5_addRow_29 : decode cX5_addRow 29 = .ok (.l2i, 1) := by decide +kernel
theorem tX5_addRow_29 {d : Nat} {l0 l1 l2 l3 l4 : Option Value} {x : Int64} {m : jmM} {Q : Option Value → jmM → Prop} : AW d 58 29 [l0, l1, l2, l3, l4] [.long x] m Q ↔ AW d 58 30 [l0, l1, l2, l3, l4] [.int x.toInt32] m Q := A_l2i hB_X5_addRow dX5_addRow_29
theorem dX5_addRow_30 : decode cX5_addRow 30 = .ok (.istore_n 1, 1) := by decide +kernel
theorem tX5_addRow_30 {d : Nat} {l0 l1 l2 l3 l4 : Option Value} {x : Int32} {m : jmM} {Q : Option Value → jmM → Prop} : AW d 58 30 [l0, l1, l2, l3, l4] [.int x] m Q ↔ AW d 58 31 [jc1 l0, some (.int x), l2, l3, l4] [] m Q := A_istore_n hB_X5_addRow dX5_addRow_30 (Nat.le_of_ble_eq_true rfl) rfl
theorem dX5_addRow_31 : decode cX5_addRow 31 = .ok (.iconst 0, 1) := by decide +kernel
theorem tX5_addRow_31 {d : Nat} {l0 l1 l2 l3 l4 : Option Value} {m : jmM} {Q : Option Value → jmM → Prop} : AW d 58 31 [l0, l1, l2, l3, l4] [] m Q ↔ AW d 58 32 [l0, l1, l2, l3, l4] [.int 0] m Q := A_iconst hB_X5_addRow dX5_addRow_31 (by decide)
theorem dX5_addRow_32 : decode cX5_addRow 32 = .ok (.istore_n 2, 1) := by decide +kernel
theorem tX5_addRow_32 {d : Nat} {l0 l1 l2 l3 l4 : Option Value} {x : Int32} {m : jmM} {Q : Option Value → jmM → Prop} : AW d 58 32 [l0, l1, l2, l3, l4] [.int x] m Q ↔ AW d 58 33 [l0, jc1 l1, some (.int x), l3, l4] [] m Q := A_istore_n hB_X5_addRow dX5_addRow_32 (Nat.le_of_ble_eq_true rfl) rfl
theorem dX5_addRow_33 : decode cX5_addRow 33 = .ok (.iload_n 2, 1) := by decide +kernel
theorem tX5_addRow_33 {d : Nat} {l0 l1 l3 l4 : Option Value} {x : Int32} {m : jmM} {Q : Option Value → jmM → Prop} : AW d 58 33 [l0, l1, some (.int x), l3, l4] [] m Q ↔ AW d 58 34 [l0, l1, some (.int x), l3, l4] [.int x] m Q := A_iload_n hB_X5_addRow dX5_addRow_33 rfl
theorem dX5_addRow_34 : decode cX5_addRow 34 = .ok (.bipush 6, 2) := by decide +kernel
theorem tX5_addRow_34 {d : Nat} {l0 l1 l2 l3 l4 : Option Value} {v0 : Value} {m : jmM} {Q : Option Value → jmM → Prop} : AW d 58 34 [l0, l1, l2, l3, l4] [v0] m Q ↔ AW d 58 36 [l0, l1, l2, l3, l4] [.int 6, v0] m Q := A_bipush hB_X5_addRow dX5_addRow_34 rfl
theorem dX5_addRow_36 : decode cX5_addRow 36 = .ok (.if_icmp .ge 78, 3) := by decide +kernel
theorem tX5_addRow_36 {d : Nat} {l0 l1 l2 l3 l4 : Option Value} {x y : Int32} {m : jmM} {Q : Option Value → jmM → Prop} : AW d 58 36 [l0, l1, l2, l3, l4] [.int y, .int x] m Q ↔ if y ≤ x then AW d 58 114 [l0, l1, l2, l3, l4] [] m Q else AW d 58 39 [l0, l1, l2, l3, l4] [] m Q := A_icmp_ge hB_X5_addRow dX5_addRow_36 (by decide)
theorem dX5_addRow_39 : decode cX5_addRow 39 = .ok (.aload_n 0, 1) := by decide +kernel
theorem tX5_addRow_39 {d : Nat} {l1 l2 l3 l4 : Option Value} {x : Nat} {m : jmM} {Q : Option Value → jmM → Prop} : AW d 58 39 [some (.ref x), l1, l2, l3, l4] [] m Q ↔ AW d 58 40 [some (.ref x), l1, l2, l3, l4] [.ref x] m Q := A_aload_n hB_X5_addRow dX5_addRow_39 rfl
theorem dX5_addRow_40 : decode cX5_addRow 40 = .ok (.getfield 75, 3) := by decide +kernel
theorem tX5_addRow_40 {d : Nat} {l0 l1 l2 l3 l4 : Option Value} {a : Nat} {m : jmM} {Q : Option Value → jmM → Prop} : AW d 58 40 [l0, l1, l2, l3, l4] [.ref a] m Q ↔ (mS m a).1 = 5 ∧ AW d 58 43 [l0, l1, l2, l3, l4] [va_rf (mR m a 18)] m Q := A_getfield (f := fun m a => va_rf (mR m a 18)) hB_X5_addRow dX5_addRow_40 hO_X5_addRow fF_5_75 rfl
theorem dX5_addRow_43 : decode cX5_addRow 43 = .ok (.iload_n 2, 1) := by decide +kernel
theorem tX5_addRow_43 {d : Nat} {l0 l1 l3 l4 : Option Value} {v0 : Value} {x : Int32} {m : jmM} {Q : Option Value → jmM → Prop} : AW d 58 43 [l0, l1, some (.int x), l3, l4] [v0] m Q ↔ AW d 58 44 [l0, l1, some (.int x), l3, l4] [.int x, v0] m Q := A_iload_n hB_X5_addRow dX5_addRow_43 rfl
theorem dX5_addRow_44 : decode cX5_addRow 44 = .ok (.dup2, 1) := by decide +kernel
theorem tX5_addRow_44 {d : Nat} {l0 l1 l2 l3 l4 : Option Value} {x : Int32} {y : Nat} {m : jmM} {Q : Option Value → jmM → Prop} : AW d 58 44 [l0, l1, l2, l3, l4] [.int x, .ref y] m Q ↔ AW d 58 45 [l0, l1, l2, l3, l4] [.int x, .ref y, .int x, .ref y] m Q := A_dup2_ia hB_X5_addRow dX5_addRow_44
theorem dX5_addRow_45 : decode cX5_addRow 45 = .ok (.laload, 1) := by decide +kernel
theorem tX5_addRow_45 {d : Nat} {l0 l1 l2 l3 l4 : Option Value} {v2 v3 : Value} {i : Int32} {a : Nat} {m : jmM} {Q : Option Value → jmM → Prop} : AW d 58 45 [l0, l1, l2, l3, l4] [.int i, .ref a, v2, v3] m Q ↔ ((mS m a).1 = 21 ∧ jIx i (mS m a).2) ∧ AW d 58 46 [l0, l1, l2, l3, l4] [.long (mL m a (jx i)), v2, v3] m Q := A_laload hB_X5_addRow dX5_addRow_45
theorem dX5_addRow_46 : decode cX5_addRow 46 = .ok (.aload_n 0, 1) := by decide +kernel
theorem tX5_addRow_46 {d : Nat} {l1 l2 l3 l4 : Option Value} {v0 v1 v2 : Value} {x : Nat} {m : jmM} {Q : Option Value → jmM → Prop} : AW d 58 46 [some (.ref x), l1, l2, l3, l4] [v0, v1, v2] m Q ↔ AW d 58 47 [some (.ref x), l1, l2, l3, l4] [.ref x, v0, v1, v2] m Q := A_aload_n hB_X5_addRow dX5_addRow_46 rfl
theorem dX5_addRow_47 : decode cX5_addRow 47 = .ok (.getfield 18, 3) := by decide +kernel
theorem tX5_addRow_47 {d : Nat} {l0 l1 l2 l3 l4 : Option Value} {v1 v2 v3 : Value} {a : Nat} {m : jmM} {Q : Option Value → jmM → Prop} : AW d 58 47 [l0, l1, l2, l3, l4] [.ref a, v1, v2, v3] m Q ↔ (mS m a).1 = 5 ∧ AW d 58 50 [l0, l1, l2, l3, l4] [va_rf (mR m a 1), v1, v2, v3] m Q := A_getfield (f := fun m a => va_rf (mR m a 1)) hB_X5_addRow dX5_addRow_47 hO_X5_addRow fF_5_18 rfl
theorem dX5_addRow_50 : decode cX5_addRow 50 = .ok (.iload_n 2, 1) := by decide +kernel
theorem tX5_addRow_50 {d : Nat} {l0 l1 l3 l4 : Option Value} {v0 v1 v2 v3 : Value} {x : Int32} {m : jmM} {Q : Option Value → jmM → Prop} : AW d 58 50 [l0, l1, some (.int x), l3, l4] [v0, v1, v2, v3] m Q ↔ AW d 58 51 [l0, l1, some (.int x), l3, l4] [.int x, v0, v1, v2, v3] m Q := A_iload_n hB_X5_addRow dX5_addRow_50 rfl
theorem dX5_addRow_51 : decode cX5_addRow 51 = .ok (.invokevirtual 181, 3) := by decide +kernel
theorem tX5_addRow_51 {d : Nat} {l0 l1 l2 l3 l4 : Option Value} {v2 v3 v4 : Value} {y0 : Value} {a : Nat} {m : jmM} {Q : Option Value → jmM → Prop} : AW d 58 51 [l0, l1, l2, l3, l4] [y0, .ref a, v2, v3, v4] m Q ↔ (mS m a).1 = 3 ∧ CC d 35 [.ref a, y0] m (jK d 58 54 [l0, l1, l2, l3, l4] [v2, v3, v4] Q) := A_callV hB_X5_addRow dX5_addRow_51 hO_X5_addRow fS_5_181 ⟨Nat.le_of_ble_eq_true rfl, Nat.le_of_ble_eq_true rfl⟩ rfl rfl rfl
theorem dX5_addRow_54 : decode cX5_addRow 54 = .ok (.i2l, 1) := by decide +kernel
theorem tX5_addRow_54 {d : Nat} {l0 l1 l2 l3 l4 : Option Value} {v1 v2 v3 : Value} {x : Int32} {m : jmM} {Q : Option Value → jmM → Prop} : AW d 58 54 [l0, l1, l2, l3, l4] [.int x, v1, v2, v3] m Q ↔ AW d 58 55 [l0, l1, l2, l3, l4] [.long x.toInt64, v1, v2, v3] m Q := A_i2l hB_X5_addRow dX5_addRow_54
theorem dX5_addRow_55 : decode cX5_addRow 55 = .ok (.ladd, 1) := by decide +kernel
theorem tX5_addRow_55 {d : Nat} {l0 l1 l2 l3 l4 : Option Value} {v2 v3 : Value} {x y : Int64} {m : jmM} {Q : Option Value → jmM → Prop} : AW d 58 55 [l0, l1, l2, l3, l4] [.long y, .long x, v2, v3] m Q ↔ AW d 58 56 [l0, l1, l2, l3, l4] [.long (x + y), v2, v3] m Q := A_ladd hB_X5_addRow dX5_addRow_55
theorem dX5_addRow_56 : decode cX5_addRow 56 = .ok (.lastore, 1) := by decide +kernel
theorem tX5_addRow_56 {d : Nat} {l0 l1 l2 l3 l4 : Option Value} {x : Int64} {i : Int32} {a : Nat} {m : jmM} {Q : Option Value → jmM → Prop} : AW d 58 56 [l0, l1, l2, l3, l4] [.long x, .int i, .ref a] m Q ↔ ((mS m a).1 = 21 ∧ jIx i (mS m a).2) ∧ AW d 58 57 [l0, l1, l2, l3, l4] [] (cL m a (jup (mL m a) (jx i) x)) Q := A_lastore hB_X5_addRow dX5_addRow_56
theorem dX5_addRow_57 : decode cX5_addRow 57 = .ok (.aload_n 0, 1) := by decide +kernel
theorem tX5_addRow_57 {d : Nat} {l1 l2 l3 l4 : Option Value} {x : Nat} {m : jmM} {Q : Option Value → jmM → Prop} : AW d 58 57 [some (.ref x), l1, l2, l3, l4] [] m Q ↔ AW d 58 58 [some (.ref x), l1, l2, l3, l4] [.ref x] m Q := A_aload_n hB_X5_addRow dX5_addRow_57 rfl
theorem dX5_addRow_58 : decode cX5_addRow 58 = .ok (.getfield 75, 3) := by decide +kernel
theorem tX5_addRow_58 {d : Nat} {l0 l1 l2 l3 l4 : Option Value} {a : Nat} {m : jmM} {Q : Option Value → jmM → Prop} : AW d 58 58 [l0, l1, l2, l3, l4] [.ref a] m Q ↔ (mS m a).1 = 5 ∧ AW d 58 61 [l0, l1, l2, l3, l4] [va_rf (mR m a 18)] m Q := A_getfield (f := fun m a => va_rf (mR m a 18)) hB_X5_addRow dX5_addRow_58 hO_X5_addRow fF_5_75 rfl
theorem dX5_addRow_61 : decode cX5_addRow 61 = .ok (.iload_n 2, 1) := by decide +kernel
theorem tX5_addRow_61 {d : Nat} {l0 l1 l3 l4 : Option Value} {v0 : Value} {x : Int32} {m : jmM} {Q : Option Value → jmM → Prop} : AW d 58 61 [l0, l1, some (.int x), l3, l4] [v0] m Q ↔ AW d 58 62 [l0, l1, some (.int x), l3, l4] [.int x, v0] m Q := A_iload_n hB_X5_addRow dX5_addRow_61 rfl
theorem dX5_addRow_62 : decode cX5_addRow 62 = .ok (.laload, 1) := by decide +kernel
theorem tX5_addRow_62 {d : Nat} {l0 l1 l2 l3 l4 : Option Value} {i : Int32} {a : Nat} {m : jmM} {Q : Option Value → jmM → Prop} : AW d 58 62 [l0, l1, l2, l3, l4] [.int i, .ref a] m Q ↔ ((mS m a).1 = 21 ∧ jIx i (mS m a).2) ∧ AW d 58 63 [l0, l1, l2, l3, l4] [.long (mL m a (jx i))] m Q := A_laload hB_X5_addRow dX5_addRow_62
theorem dX5_addRow_63 : decode cX5_addRow 63 = .ok (.iload_n 1, 1) := by decide +kernel
theorem tX5_addRow_63 {d : Nat} {l0 l2 l3 l4 : Option Value} {v0 : Value} {x : Int32} {m : jmM} {Q : Option Value → jmM → Prop} : AW d 58 63 [l0, some (.int x), l2, l3, l4] [v0] m Q ↔ AW d 58 64 [l0, some (.int x), l2, l3, l4] [.int x, v0] m Q := A_iload_n hB_X5_addRow dX5_addRow_63 rfl
theorem dX5_addRow_64 : decode cX5_addRow 64 = .ok (.i2l, 1) := by decide +kernel
theorem tX5_addRow_64 {d : Nat} {l0 l1 l2 l3 l4 : Option Value} {v1 : Value} {x : Int32} {m : jmM} {Q : Option Value → jmM → Prop} : AW d 58 64 [l0, l1, l2, l3, l4] [.int x, v1] m Q ↔ AW d 58 65 [l0, l1, l2, l3, l4] [.long x.toInt64, v1] m Q := A_i2l hB_X5_addRow dX5_addRow_64
theorem dX5_addRow_65 : decode cX5_addRow 65 = .ok (.aload_n 0, 1) := by decide +kernel
theorem tX5_addRow_65 {d : Nat} {l1 l2 l3 l4 : Option Value} {v0 v1 : Value} {x : Nat} {m : jmM} {Q : Option Value → jmM → Prop} : AW d 58 65 [some (.ref x), l1, l2, l3, l4] [v0, v1] m Q ↔ AW d 58 66 [some (.ref x), l1, l2, l3, l4] [.ref x, v0, v1] m Q := A_aload_n hB_X5_addRow dX5_addRow_65 rfl
theorem dX5_addRow_66 : decode cX5_addRow 66 = .ok (.getfield 33, 3) := by decide +kernel
theorem tX5_addRow_66 {d : Nat} {l0 l1 l2 l3 l4 : Option Value} {v1 v2 : Value} {a : Nat} {m : jmM} {Q : Option Value → jmM → Prop} : AW d 58 66 [l0, l1, l2, l3, l4] [.ref a, v1, v2] m Q ↔ (mS m a).1 = 5 ∧ AW d 58 69 [l0, l1, l2, l3, l4] [.int (mI m a 5), v1, v2] m Q := A_getfield (f := fun m a => .int (mI m a 5)) hB_X5_addRow dX5_addRow_66 hO_X5_addRow fF_5_33 rfl
theorem dX5_addRow_69 : decode cX5_addRow 69 = .ok (.i2l, 1) := by decide +kernel
theorem tX5_addRow_69 {d : Nat} {l0 l1 l2 l3 l4 : Option Value} {v1 v2 : Value} {x : Int32} {m : jmM} {Q : Option Value → jmM → Prop} : AW d 58 69 [l0, l1, l2, l3, l4] [.int x, v1, v2] m Q ↔ AW d 58 70 [l0, l1, l2, l3, l4] [.long x.toInt64, v1, v2] m Q := A_i2l hB_X5_addRow dX5_addRow_69
theorem dX5_addRow_70 : decode cX5_addRow 70 = .ok (.aload_n 0, 1) := by decide +kernel
theorem tX5_addRow_70 {d : Nat} {l1 l2 l3 l4 : Option Value} {v0 v1 v2 : Value} {x : Nat} {m : jmM} {Q : Option Value → jmM → Prop} : AW d 58 70 [some (.ref x), l1, l2, l3, l4] [v0, v1, v2] m Q ↔ AW d 58 71 [some (.ref x), l1, l2, l3, l4] [.ref x, v0, v1, v2] m Q := A_aload_n hB_X5_addRow dX5_addRow_70 rfl
theorem dX5_addRow_71 : decode cX5_addRow 71 = .ok (.getfield 12, 3) := by decide +kernel
theorem tX5_addRow_71 {d : Nat} {l0 l1 l2 l3 l4 : Option Value} {v1 v2 v3 : Value} {a : Nat} {m : jmM} {Q : Option Value → jmM → Prop} : AW d 58 71 [l0, l1, l2, l3, l4] [.ref a, v1, v2, v3] m Q ↔ (mS m a).1 = 5 ∧ AW d 58 74 [l0, l1, l2, l3, l4] [va_rf (mR m a 0), v1, v2, v3] m Q := A_getfield (f := fun m a => va_rf (mR m a 0)) hB_X5_addRow dX5_addRow_71 hO_X5_addRow fF_5_12 rfl
theorem dX5_addRow_74 : decode cX5_addRow 74 = .ok (.iload_n 2, 1) := by decide +kernel
theorem tX5_addRow_74 {d : Nat} {l0 l1 l3 l4 : Option Value} {v0 v1 v2 v3 : Value} {x : Int32} {m : jmM} {Q : Option Value → jmM → Prop} : AW d 58 74 [l0, l1, some (.int x), l3, l4] [v0, v1, v2, v3] m Q ↔ AW d 58 75 [l0, l1, some (.int x), l3, l4] [.int x, v0, v1, v2, v3] m Q := A_iload_n hB_X5_addRow dX5_addRow_74 rfl
theorem dX5_addRow_75 : decode cX5_addRow 75 = .ok (.invokevirtual 184, 3) := by decide +kernel
theorem tX5_addRow_75 {d : Nat} {l0 l1 l2 l3 l4 : Option Value} {v2 v3 v4 : Value} {y0 : Value} {a : Nat} {m : jmM} {Q : Option Value → jmM → Prop} : AW d 58 75 [l0, l1, l2, l3, l4] [y0, .ref a, v2, v3, v4] m Q ↔ (mS m a).1 = 8 ∧ CC d 129 [.ref a, y0] m (jK d 58 78 [l0, l1, l2, l3, l4] [v2, v3, v4] Q) := A_callV hB_X5_addRow dX5_addRow_75 hO_X5_addRow fS_5_184 ⟨Nat.le_of_ble_eq_true rfl, Nat.le_of_ble_eq_true rfl⟩ rfl rfl rfl
theorem dX5_addRow_78 : decode cX5_addRow 78 = .ok (.i2l, 1) := by decide +kernel
theorem tX5_addRow_78 {d : Nat} {l0 l1 l2 l3 l4 : Option Value} {v1 v2 v3 : Value} {x : Int32} {m : jmM} {Q : Option Value → jmM → Prop} : AW d 58 78 [l0, l1, l2, l3, l4] [.int x, v1, v2, v3] m Q ↔ AW d 58 79 [l0, l1, l2, l3, l4] [.long x.toInt64, v1, v2, v3] m Q := A_i2l hB_X5_addRow dX5_addRow_78
theorem dX5_addRow_79 : decode cX5_addRow 79 = .ok (.invokestatic 187, 3) := by decide +kernel
theorem tX5_addRow_79 {d : Nat} {l0 l1 l2 l3 l4 : Option Value} {y0 y1 y2 y3 : Value} {m : jmM} {Q : Option Value → jmM → Prop} : AW d 58 79 [l0, l1, l2, l3, l4] [y0, y1, y2, y3] m Q ↔ CC d 187 [y3, y2, y1, y0] m (jK d 58 82 [l0, l1, l2, l3, l4] [] Q) := A_callS4 hB_X5_addRow dX5_addRow_79 hO_X5_addRow fS_5_187 ⟨Nat.le_of_ble_eq_true rfl, Nat.le_of_ble_eq_true rfl⟩ rfl rfl
theorem dX5_addRow_82 : decode cX5_addRow 82 = .ok (.lstore_n 3, 1) := by decide +kernel
theorem tX5_addRow_82 {d : Nat} {l0 l1 l2 l3 l4 : Option Value} {x : Int64} {m : jmM} {Q : Option Value → jmM → Prop} : AW d 58 82 [l0, l1, l2, l3, l4] [.long x] m Q ↔ AW d 58 83 [l0, l1, jc1 l2, some (.long x), none] [] m Q := A_lstore_n hB_X5_addRow dX5_addRow_82 (Nat.le_of_ble_eq_true rfl) rfl
theorem dX5_addRow_83 : decode cX5_addRow 83 = .ok (.aload_n 0, 1) := by decide +kernel
theorem tX5_addRow_83 {d : Nat} {l1 l2 l3 l4 : Option Value} {x : Nat} {m : jmM} {Q : Option Value → jmM → Prop} : AW d 58 83 [some (.ref x), l1, l2, l3, l4] [] m Q ↔ AW d 58 84 [some (.ref x), l1, l2, l3, l4] [.ref x] m Q := A_aload_n hB_X5_addRow dX5_addRow_83 rfl
theorem dX5_addRow_84 : decode cX5_addRow 84 = .ok (.getfield 75, 3) := by decide +kernel
theorem tX5_addRow_84 {d : Nat} {l0 l1 l2 l3 l4 : Option Value} {a : Nat} {m : jmM} {Q : Option Value → jmM → Prop} : AW d 58 84 [l0, l1, l2, l3, l4] [.ref a] m Q ↔ (mS m a).1 = 5 ∧ AW d 58 87 [l0, l1, l2, l3, l4] [va_rf (mR m a 18)] m Q := A_getfield (f := fun m a => va_rf (mR m a 18)) hB_X5_addRow dX5_addRow_84 hO_X5_addRow fF_5_75 rfl
theorem dX5_addRow_87 : decode cX5_addRow 87 = .ok (.iload_n 2, 1) := by decide +kernel
theorem tX5_addRow_87 {d : Nat} {l0 l1 l3 l4 : Option Value} {v0 : Value} {x : Int32} {m : jmM} {Q : Option Value → jmM → Prop} : AW d 58 87 [l0, l1, some (.int x), l3, l4] [v0] m Q ↔ AW d 58 88 [l0, l1, some (.int x), l3, l4] [.int x, v0] m Q := A_iload_n hB_X5_addRow dX5_addRow_87 rfl
theorem dX5_addRow_88 : decode cX5_addRow 88 = .ok (.dup2, 1) := by decide +kernel
theorem tX5_addRow_88 {d : Nat} {l0 l1 l2 l3 l4 : Option Value} {x : Int32} {y : Nat} {m : jmM} {Q : Option Value → jmM → Prop} : AW d 58 88 [l0, l1, l2, l3, l4] [.int x, .ref y] m Q ↔ AW d 58 89 [l0, l1, l2, l3, l4] [.int x, .ref y, .int x, .ref y] m Q := A_dup2_ia hB_X5_addRow dX5_addRow_88
theorem dX5_addRow_89 : decode cX5_addRow 89 = .ok (.laload, 1) := by decide +kernel
theorem tX5_addRow_89 {d : Nat} {l0 l1 l2 l3 l4 : Option Value} {v2 v3 : Value} {i : Int32} {a : Nat} {m : jmM} {Q : Option Value → jmM → Prop} : AW d 58 89 [l0, l1, l2, l3, l4] [.int i, .ref a, v2, v3] m Q ↔ ((mS m a).1 = 21 ∧ jIx i (mS m a).2) ∧ AW d 58 90 [l0, l1, l2, l3, l4] [.long (mL m a (jx i)), v2, v3] m Q := A_laload hB_X5_addRow dX5_addRow_89
theorem dX5_addRow_90 : decode cX5_addRow 90 = .ok (.lload_n 3, 1) := by decide +kernel
theorem tX5_addRow_90 {d : Nat} {l0 l1 l2 l4 : Option Value} {v0 v1 v2 : Value} {x : Int64} {m : jmM} {Q : Option Value → jmM → Prop} : AW d 58 90 [l0, l1, l2, some (.long x), l4] [v0, v1, v2] m Q ↔ AW d 58 91 [l0, l1, l2, some (.long x), l4] [.long x, v0, v1, v2] m Q := A_lload_n hB_X5_addRow dX5_addRow_90 rfl
theorem dX5_addRow_91 : decode cX5_addRow 91 = .ok (.lsub, 1) := by decide +kernel
theorem tX5_addRow_91 {d : Nat} {l0 l1 l2 l3 l4 : Option Value} {v2 v3 : Value} {x y : Int64} {m : jmM} {Q : Option Value → jmM → Prop} : AW d 58 91 [l0, l1, l2, l3, l4] [.long y, .long x, v2, v3] m Q ↔ AW d 58 92 [l0, l1, l2, l3, l4] [.long (x - y), v2, v3] m Q := A_lsub hB_X5_addRow dX5_addRow_91
theorem dX5_addRow_92 : decode cX5_addRow 92 = .ok (.lastore, 1) := by decide +kernel
theorem tX5_addRow_92 {d : Nat} {l0 l1 l2 l3 l4 : Option Value} {x : Int64} {i : Int32} {a : Nat} {m : jmM} {Q : Option Value → jmM → Prop} : AW d 58 92 [l0, l1, l2, l3, l4] [.long x, .int i, .ref a] m Q ↔ ((mS m a).1 = 21 ∧ jIx i (mS m a).2) ∧ AW d 58 93 [l0, l1, l2, l3, l4] [] (cL m a (jup (mL m a) (jx i) x)) Q := A_lastore hB_X5_addRow dX5_addRow_92
theorem dX5_addRow_93 : decode cX5_addRow 93 = .ok (.aload_n 0, 1) := by decide +kernel
theorem tX5_addRow_93 {d : Nat} {l1 l2 l3 l4 : Option Value} {x : Nat} {m : jmM} {Q : Option Value → jmM → Prop} : AW d 58 93 [some (.ref x), l1, l2, l3, l4] [] m Q ↔ AW d 58 94 [some (.ref x), l1, l2, l3, l4] [.ref x] m Q := A_aload_n hB_X5_addRow dX5_addRow_93 rfl
theorem dX5_addRow_94 : decode cX5_addRow 94 = .ok (.getfield 71, 3) := by decide +kernel
theorem tX5_addRow_94 {d : Nat} {l0 l1 l2 l3 l4 : Option Value} {a : Nat} {m : jmM} {Q : Option Value → jmM → Prop} : AW d 58 94 [l0, l1, l2, l3, l4] [.ref a] m Q ↔ (mS m a).1 = 5 ∧ AW d 58 97 [l0, l1, l2, l3, l4] [va_rf (mR m a 17)] m Q := A_getfield (f := fun m a => va_rf (mR m a 17)) hB_X5_addRow dX5_addRow_94 hO_X5_addRow fF_5_71 rfl
theorem dX5_addRow_97 : decode cX5_addRow 97 = .ok (.aload_n 0, 1) := by decide +kernel
theorem tX5_addRow_97 {d : Nat} {l1 l2 l3 l4 : Option Value} {v0 : Value} {x : Nat} {m : jmM} {Q : Option Value → jmM → Prop} : AW d 58 97 [some (.ref x), l1, l2, l3, l4] [v0] m Q ↔ AW d 58 98 [some (.ref x), l1, l2, l3, l4] [.ref x, v0] m Q := A_aload_n hB_X5_addRow dX5_addRow_97 rfl
theorem dX5_addRow_98 : decode cX5_addRow 98 = .ok (.getfield 51, 3) := by decide +kernel
theorem tX5_addRow_98 {d : Nat} {l0 l1 l2 l3 l4 : Option Value} {v1 : Value} {a : Nat} {m : jmM} {Q : Option Value → jmM → Prop} : AW d 58 98 [l0, l1, l2, l3, l4] [.ref a, v1] m Q ↔ (mS m a).1 = 5 ∧ AW d 58 101 [l0, l1, l2, l3, l4] [.int (mI m a 11), v1] m Q := A_getfield (f := fun m a => .int (mI m a 11)) hB_X5_addRow dX5_addRow_98 hO_X5_addRow fF_5_51 rfl
theorem dX5_addRow_101 : decode cX5_addRow 101 = .ok (.bipush 6, 2) := by decide +kernel
theorem tX5_addRow_101 {d : Nat} {l0 l1 l2 l3 l4 : Option Value} {v0 v1 : Value} {m : jmM} {Q : Option Value → jmM → Prop} : AW d 58 101 [l0, l1, l2, l3, l4] [v0, v1] m Q ↔ AW d 58 103 [l0, l1, l2, l3, l4] [.int 6, v0, v1] m Q := A_bipush hB_X5_addRow dX5_addRow_101 rfl
theorem dX5_addRow_103 : decode cX5_addRow 103 = .ok (.imul, 1) := by decide +kernel
theorem tX5_addRow_103 {d : Nat} {l0 l1 l2 l3 l4 : Option Value} {v2 : Value} {x y : Int32} {m : jmM} {Q : Option Value → jmM → Prop} : AW d 58 103 [l0, l1, l2, l3, l4] [.int y, .int x, v2] m Q ↔ AW d 58 104 [l0, l1, l2, l3, l4] [.int (x * y), v2] m Q := A_imul hB_X5_addRow dX5_addRow_103
theorem dX5_addRow_104 : decode cX5_addRow 104 = .ok (.iload_n 2, 1) := by decide +kernel
theorem tX5_addRow_104 {d : Nat} {l0 l1 l3 l4 : Option Value} {v0 v1 : Value} {x : Int32} {m : jmM} {Q : Option Value → jmM → Prop} : AW d 58 104 [l0, l1, some (.int x), l3, l4] [v0, v1] m Q ↔ AW d 58 105 [l0, l1, some (.int x), l3, l4] [.int x, v0, v1] m Q := A_iload_n hB_X5_addRow dX5_addRow_104 rfl
theorem dX5_addRow_105 : decode cX5_addRow 105 = .ok (.iadd, 1) := by decide +kernel
theorem tX5_addRow_105 {d : Nat} {l0 l1 l2 l3 l4 : Option Value} {v2 : Value} {x y : Int32} {m : jmM} {Q : Option Value → jmM → Prop} : AW d 58 105 [l0, l1, l2, l3, l4] [.int y, .int x, v2] m Q ↔ AW d 58 106 [l0, l1, l2, l3, l4] [.int (x + y), v2] m Q := A_iadd hB_X5_addRow dX5_addRow_105
theorem dX5_addRow_106 : decode cX5_addRow 106 = .ok (.lload_n 3, 1) := by decide +kernel
theorem tX5_addRow_106 {d : Nat} {l0 l1 l2 l4 : Option Value} {v0 v1 : Value} {x : Int64} {m : jmM} {Q : Option Value → jmM → Prop} : AW d 58 106 [l0, l1, l2, some (.long x), l4] [v0, v1] m Q ↔ AW d 58 107 [l0, l1, l2, some (.long x), l4] [.long x, v0, v1] m Q := A_lload_n hB_X5_addRow dX5_addRow_106 rfl
theorem dX5_addRow_107 : decode cX5_addRow 107 = .ok (.lastore, 1) := by decide +kernel
theorem tX5_addRow_107 {d : Nat} {l0 l1 l2 l3 l4 : Option Value} {x : Int64} {i : Int32} {a : Nat} {m : jmM} {Q : Option Value → jmM → Prop} : AW d 58 107 [l0, l1, l2, l3, l4] [.long x, .int i, .ref a] m Q ↔ ((mS m a).1 = 21 ∧ jIx i (mS m a).2) ∧ AW d 58 108 [l0, l1, l2, l3, l4] [] (cL m a (jup (mL m a) (jx i) x)) Q := A_lastore hB_X5_addRow dX5_addRow_107
theorem dX5_addRow_108 : decode cX5_addRow 108 = .ok (.iinc 2 1, 3) := by decide +kernel
theorem tX5_addRow_108 {d : Nat} {l0 l1 l3 l4 : Option Value} {x : Int32} {m : jmM} {Q : Option Value → jmM → Prop} : AW d 58 108 [l0, l1, some (.int x), l3, l4] [] m Q ↔ AW d 58 111 [l0, jc1 l1, some (.int (x + 1)), l3, l4] [] m Q := A_iinc hB_X5_addRow dX5_addRow_108 rfl (Nat.le_of_ble_eq_true rfl) (v := 1) (by decide) rfl
theorem dX5_addRow_111 : decode cX5_addRow 111 = .ok (.goto (-78), 3) := by decide +kernel
theorem tX5_addRow_111 {d : Nat} {l0 l1 l2 l3 l4 : Option Value} {m : jmM} {Q : Option Value → jmM → Prop} : AW d 58 111 [l0, l1, l2, l3, l4] [] m Q ↔ AW d 58 33 [l0, l1, l2, l3, l4] [] m Q := A_goto hB_X5_addRow dX5_addRow_111 (by decide)
theorem dX5_addRow_114 : decode cX5_addRow 114 = .ok (.aload_n 0, 1) := by decide +kernel
theorem tX5_addRow_114 {d : Nat} {l1 l2 l3 l4 : Option Value} {x : Nat} {m : jmM} {Q : Option Value → jmM → Prop} : AW d 58 114 [some (.ref x), l1, l2, l3, l4] [] m Q ↔ AW d 58 115 [some (.ref x), l1, l2, l3, l4] [.ref x] m Q := A_aload_n hB_X5_addRow dX5_addRow_114 rfl
theorem dX5_addRow_115 : decode cX5_addRow 115 = .ok (.getfield 54, 3) := by decide +kernel
theorem tX5_addRow_115 {d : Nat} {l0 l1 l2 l3 l4 : Option Value} {a : Nat} {m : jmM} {Q : Option Value → jmM → Prop} : AW d 58 115 [l0, l1, l2, l3, l4] [.ref a] m Q ↔ (mS m a).1 = 5 ∧ AW d 58 118 [l0, l1, l2, l3, l4] [va_rf (mR m a 12)] m Q := A_getfield (f := fun m a => va_rf (mR m a 12)) hB_X5_addRow dX5_addRow_115 hO_X5_addRow fF_5_54 rfl
theorem dX5_addRow_118 : decode cX5_addRow 118 = .ok (.aload_n 0, 1) := by decide +kernel
theorem tX5_addRow_118 {d : Nat} {l1 l2 l3 l4 : Option Value} {v0 : Value} {x : Nat} {m : jmM} {Q : Option Value → jmM → Prop} : AW d 58 118 [some (.ref x), l1, l2, l3, l4] [v0] m Q ↔ AW d 58 119 [some (.ref x), l1, l2, l3, l4] [.ref x, v0] m Q := A_aload_n hB_X5_addRow dX5_addRow_118 rfl
theorem dX5_addRow_119 : decode cX5_addRow 119 = .ok (.getfield 51, 3) := by decide +kernel
theorem tX5_addRow_119 {d : Nat} {l0 l1 l2 l3 l4 : Option Value} {v1 : Value} {a : Nat} {m : jmM} {Q : Option Value → jmM → Prop} : AW d 58 119 [l0, l1, l2, l3, l4] [.ref a, v1] m Q ↔ (mS m a).1 = 5 ∧ AW d 58 122 [l0, l1, l2, l3, l4] [.int (mI m a 11), v1] m Q := A_getfield (f := fun m a => .int (mI m a 11)) hB_X5_addRow dX5_addRow_119 hO_X5_addRow fF_5_51 rfl
theorem dX5_addRow_122 : decode cX5_addRow 122 = .ok (.aload_n 0, 1) := by decide +kernel
theorem tX5_addRow_122 {d : Nat} {l1 l2 l3 l4 : Option Value} {v0 v1 : Value} {x : Nat} {m : jmM} {Q : Option Value → jmM → Prop} : AW d 58 122 [some (.ref x), l1, l2, l3, l4] [v0, v1] m Q ↔ AW d 58 123 [some (.ref x), l1, l2, l3, l4] [.ref x, v0, v1] m Q := A_aload_n hB_X5_addRow dX5_addRow_122 rfl
theorem dX5_addRow_123 : decode cX5_addRow 123 = .ok (.getfield 36, 3) := by decide +kernel
theorem tX5_addRow_123 {d : Nat} {l0 l1 l2 l3 l4 : Option Value} {v1 v2 : Value} {a : Nat} {m : jmM} {Q : Option Value → jmM → Prop} : AW d 58 123 [l0, l1, l2, l3, l4] [.ref a, v1, v2] m Q ↔ (mS m a).1 = 5 ∧ AW d 58 126 [l0, l1, l2, l3, l4] [.int (mI m a 6), v1, v2] m Q := A_getfield (f := fun m a => .int (mI m a 6)) hB_X5_addRow dX5_addRow_123 hO_X5_addRow fF_5_36 rfl
theorem dX5_addRow_126 : decode cX5_addRow 126 = .ok (.iastore, 1) := by decide +kernel
theorem tX5_addRow_126 {d : Nat} {l0 l1 l2 l3 l4 : Option Value} {x i : Int32} {a : Nat} {m : jmM} {Q : Option Value → jmM → Prop} : AW d 58 126 [l0, l1, l2, l3, l4] [.int x, .int i, .ref a] m Q ↔ ((mS m a).1 = 20 ∧ jIx i (mS m a).2) ∧ AW d 58 127 [l0, l1, l2, l3, l4] [] (cI m a (jup (mI m a) (jx i) x)) Q := A_iastore hB_X5_addRow dX5_addRow_126
theorem dX5_addRow_127 : decode cX5_addRow 127 = .ok (.aload_n 0, 1) := by decide +kernel
theorem tX5_addRow_127 {d : Nat} {l1 l2 l3 l4 : Option Value} {x : Nat} {m : jmM} {Q : Option Value → jmM → Prop} : AW d 58 127 [some (.ref x), l1, l2, l3, l4] [] m Q ↔ AW d 58 128 [some (.ref x), l1, l2, l3, l4] [.ref x] m Q := A_aload_n hB_X5_addRow dX5_addRow_127 rfl
theorem dX5_addRow_128 : decode cX5_addRow 128 = .ok (.getfield 58, 3) := by decide +kernel
theorem tX5_addRow_128 {d : Nat} {l0 l1 l2 l3 l4 : Option Value} {a : Nat} {m : jmM} {Q : Option Value → jmM → Prop} : AW d 58 128 [l0, l1, l2, l3, l4] [.ref a] m Q ↔ (mS m a).1 = 5 ∧ AW d 58 131 [l0, l1, l2, l3, l4] [va_rf (mR m a 13)] m Q := A_getfield (f := fun m a => va_rf (mR m a 13)) hB_X5_addRow dX5_addRow_128 hO_X5_addRow fF_5_58 rfl
theorem dX5_addRow_131 : decode cX5_addRow 131 = .ok (.aload_n 0, 1) := by decide +kernel
theorem tX5_addRow_131 {d : Nat} {l1 l2 l3 l4 : Option Value} {v0 : Value} {x : Nat} {m : jmM} {Q : Option Value → jmM → Prop} : AW d 58 131 [some (.ref x), l1, l2, l3, l4] [v0] m Q ↔ AW d 58 132 [some (.ref x), l1, l2, l3, l4] [.ref x, v0] m Q := A_aload_n hB_X5_addRow dX5_addRow_131 rfl
theorem dX5_addRow_132 : decode cX5_addRow 132 = .ok (.getfield 51, 3) := by decide +kernel
theorem tX5_addRow_132 {d : Nat} {l0 l1 l2 l3 l4 : Option Value} {v1 : Value} {a : Nat} {m : jmM} {Q : Option Value → jmM → Prop} : AW d 58 132 [l0, l1, l2, l3, l4] [.ref a, v1] m Q ↔ (mS m a).1 = 5 ∧ AW d 58 135 [l0, l1, l2, l3, l4] [.int (mI m a 11), v1] m Q := A_getfield (f := fun m a => .int (mI m a 11)) hB_X5_addRow dX5_addRow_132 hO_X5_addRow fF_5_51 rfl
theorem dX5_addRow_135 : decode cX5_addRow 135 = .ok (.aload_n 0, 1) := by decide +kernel
theorem tX5_addRow_135 {d : Nat} {l1 l2 l3 l4 : Option Value} {v0 v1 : Value} {x : Nat} {m : jmM} {Q : Option Value → jmM → Prop} : AW d 58 135 [some (.ref x), l1, l2, l3, l4] [v0, v1] m Q ↔ AW d 58 136 [some (.ref x), l1, l2, l3, l4] [.ref x, v0, v1] m Q := A_aload_n hB_X5_addRow dX5_addRow_135 rfl
theorem dX5_addRow_136 : decode cX5_addRow 136 = .ok (.getfield 39, 3) := by decide +kernel
theorem tX5_addRow_136 {d : Nat} {l0 l1 l2 l3 l4 : Option Value} {v1 v2 : Value} {a : Nat} {m : jmM} {Q : Option Value → jmM → Prop} : AW d 58 136 [l0, l1, l2, l3, l4] [.ref a, v1, v2] m Q ↔ (mS m a).1 = 5 ∧ AW d 58 139 [l0, l1, l2, l3, l4] [.int (mI m a 7), v1, v2] m Q := A_getfield (f := fun m a => .int (mI m a 7)) hB_X5_addRow dX5_addRow_136 hO_X5_addRow fF_5_39 rfl
theorem dX5_addRow_139 : decode cX5_addRow 139 = .ok (.iastore, 1) := by decide +kernel
theorem tX5_addRow_139 {d : Nat} {l0 l1 l2 l3 l4 : Option Value} {x i : Int32} {a : Nat} {m : jmM} {Q : Option Value → jmM → Prop} : AW d 58 139 [l0, l1, l2, l3, l4] [.int x, .int i, .ref a] m Q ↔ ((mS m a).1 = 20 ∧ jIx i (mS m a).2) ∧ AW d 58 140 [l0, l1, l2, l3, l4] [] (cI m a (jup (mI m a) (jx i) x)) Q := A_iastore hB_X5_addRow dX5_addRow_139
theorem dX5_addRow_140 : decode cX5_addRow 140 = .ok (.aload_n 0, 1) := by decide +kernel
theorem tX5_addRow_140 {d : Nat} {l1 l2 l3 l4 : Option Value} {x : Nat} {m : jmM} {Q : Option Value → jmM → Prop} : AW d 58 140 [some (.ref x), l1, l2, l3, l4] [] m Q ↔ AW d 58 141 [some (.ref x), l1, l2, l3, l4] [.ref x] m Q := A_aload_n hB_X5_addRow dX5_addRow_140 rfl
theorem dX5_addRow_141 : decode cX5_addRow 141 = .ok (.getfield 61, 3) := by decide +kernel
theorem tX5_addRow_141 {d : Nat} {l0 l1 l2 l3 l4 : Option Value} {a : Nat} {m : jmM} {Q : Option Value → jmM → Prop} : AW d 58 141 [l0, l1, l2, l3, l4] [.ref a] m Q ↔ (mS m a).1 = 5 ∧ AW d 58 144 [l0, l1, l2, l3, l4] [va_rf (mR m a 14)] m Q := A_getfield (f := fun m a => va_rf (mR m a 14)) hB_X5_addRow dX5_addRow_141 hO_X5_addRow fF_5_61 rfl
theorem dX5_addRow_144 : decode cX5_addRow 144 = .ok (.aload_n 0, 1) := by decide +kernel
theorem tX5_addRow_144 {d : Nat} {l1 l2 l3 l4 : Option Value} {v0 : Value} {x : Nat} {m : jmM} {Q : Option Value → jmM → Prop} : AW d 58 144 [some (.ref x), l1, l2, l3, l4] [v0] m Q ↔ AW d 58 145 [some (.ref x), l1, l2, l3, l4] [.ref x, v0] m Q := A_aload_n hB_X5_addRow dX5_addRow_144 rfl
theorem dX5_addRow_145 : decode cX5_addRow 145 = .ok (.getfield 51, 3) := by decide +kernel
theorem tX5_addRow_145 {d : Nat} {l0 l1 l2 l3 l4 : Option Value} {v1 : Value} {a : Nat} {m : jmM} {Q : Option Value → jmM → Prop} : AW d 58 145 [l0, l1, l2, l3, l4] [.ref a, v1] m Q ↔ (mS m a).1 = 5 ∧ AW d 58 148 [l0, l1, l2, l3, l4] [.int (mI m a 11), v1] m Q := A_getfield (f := fun m a => .int (mI m a 11)) hB_X5_addRow dX5_addRow_145 hO_X5_addRow fF_5_51 rfl
theorem dX5_addRow_148 : decode cX5_addRow 148 = .ok (.aload_n 0, 1) := by decide +kernel
theorem tX5_addRow_148 {d : Nat} {l1 l2 l3 l4 : Option Value} {v0 v1 : Value} {x : Nat} {m : jmM} {Q : Option Value → jmM → Prop} : AW d 58 148 [some (.ref x), l1, l2, l3, l4] [v0, v1] m Q ↔ AW d 58 149 [some (.ref x), l1, l2, l3, l4] [.ref x, v0, v1] m Q := A_aload_n hB_X5_addRow dX5_addRow_148 rfl
theorem dX5_addRow_149 : decode cX5_addRow 149 = .ok (.getfield 42, 3) := by decide +kernel
theorem tX5_addRow_149 {d : Nat} {l0 l1 l2 l3 l4 : Option Value} {v1 v2 : Value} {a : Nat} {m : jmM} {Q : Option Value → jmM → Prop} : AW d 58 149 [l0, l1, l2, l3, l4] [.ref a, v1, v2] m Q ↔ (mS m a).1 = 5 ∧ AW d 58 152 [l0, l1, l2, l3, l4] [.int (mI m a 8), v1, v2] m Q := A_getfield (f := fun m a => .int (mI m a 8)) hB_X5_addRow dX5_addRow_149 hO_X5_addRow fF_5_42 rfl
theorem dX5_addRow_152 : decode cX5_addRow 152 = .ok (.iastore, 1) := by decide +kernel
theorem tX5_addRow_152 {d : Nat} {l0 l1 l2 l3 l4 : Option Value} {x i : Int32} {a : Nat} {m : jmM} {Q : Option Value → jmM → Prop} : AW d 58 152 [l0, l1, l2, l3, l4] [.int x, .int i, .ref a] m Q ↔ ((mS m a).1 = 20 ∧ jIx i (mS m a).2) ∧ AW d 58 153 [l0, l1, l2, l3, l4] [] (cI m a (jup (mI m a) (jx i) x)) Q := A_iastore hB_X5_addRow dX5_addRow_152
theorem dX5_addRow_153 : decode cX5_addRow 153 = .ok (.aload_n 0, 1) := by decide +kernel
theorem tX5_addRow_153 {d : Nat} {l1 l2 l3 l4 : Option Value} {x : Nat} {m : jmM} {Q : Option Value → jmM → Prop} : AW d 58 153 [some (.ref x), l1, l2, l3, l4] [] m Q ↔ AW d 58 154 [some (.ref x), l1, l2, l3, l4] [.ref x] m Q := A_aload_n hB_X5_addRow dX5_addRow_153 rfl
theorem dX5_addRow_154 : decode cX5_addRow 154 = .ok (.getfield 64, 3) := by decide +kernel
theorem tX5_addRow_154 {d : Nat} {l0 l1 l2 l3 l4 : Option Value} {a : Nat} {m : jmM} {Q : Option Value → jmM → Prop} : AW d 58 154 [l0, l1, l2, l3, l4] [.ref a] m Q ↔ (mS m a).1 = 5 ∧ AW d 58 157 [l0, l1, l2, l3, l4] [va_rf (mR m a 15)] m Q := A_getfield (f := fun m a => va_rf (mR m a 15)) hB_X5_addRow dX5_addRow_154 hO_X5_addRow fF_5_64 rfl
theorem dX5_addRow_157 : decode cX5_addRow 157 = .ok (.aload_n 0, 1) := by decide +kernel
theorem tX5_addRow_157 {d : Nat} {l1 l2 l3 l4 : Option Value} {v0 : Value} {x : Nat} {m : jmM} {Q : Option Value → jmM → Prop} : AW d 58 157 [some (.ref x), l1, l2, l3, l4] [v0] m Q ↔ AW d 58 158 [some (.ref x), l1, l2, l3, l4] [.ref x, v0] m Q := A_aload_n hB_X5_addRow dX5_addRow_157 rfl
theorem dX5_addRow_158 : decode cX5_addRow 158 = .ok (.getfield 51, 3) := by decide +kernel
theorem tX5_addRow_158 {d : Nat} {l0 l1 l2 l3 l4 : Option Value} {v1 : Value} {a : Nat} {m : jmM} {Q : Option Value → jmM → Prop} : AW d 58 158 [l0, l1, l2, l3, l4] [.ref a, v1] m Q ↔ (mS m a).1 = 5 ∧ AW d 58 161 [l0, l1, l2, l3, l4] [.int (mI m a 11), v1] m Q := A_getfield (f := fun m a => .int (mI m a 11)) hB_X5_addRow dX5_addRow_158 hO_X5_addRow fF_5_51 rfl
theorem dX5_addRow_161 : decode cX5_addRow 161 = .ok (.iload_n 1, 1) := by decide +kernel
theorem tX5_addRow_161 {d : Nat} {l0 l2 l3 l4 : Option Value} {v0 v1 : Value} {x : Int32} {m : jmM} {Q : Option Value → jmM → Prop} : AW d 58 161 [l0, some (.int x), l2, l3, l4] [v0, v1] m Q ↔ AW d 58 162 [l0, some (.int x), l2, l3, l4] [.int x, v0, v1] m Q := A_iload_n hB_X5_addRow dX5_addRow_161 rfl
theorem dX5_addRow_162 : decode cX5_addRow 162 = .ok (.iastore, 1) := by decide +kernel
theorem tX5_addRow_162 {d : Nat} {l0 l1 l2 l3 l4 : Option Value} {x i : Int32} {a : Nat} {m : jmM} {Q : Option Value → jmM → Prop} : AW d 58 162 [l0, l1, l2, l3, l4] [.int x, .int i, .ref a] m Q ↔ ((mS m a).1 = 20 ∧ jIx i (mS m a).2) ∧ AW d 58 163 [l0, l1, l2, l3, l4] [] (cI m a (jup (mI m a) (jx i) x)) Q := A_iastore hB_X5_addRow dX5_addRow_162
theorem dX5_addRow_163 : decode cX5_addRow 163 = .ok (.aload_n 0, 1) := by decide +kernel
theorem tX5_addRow_163 {d : Nat} {l1 l2 l3 l4 : Option Value} {x : Nat} {m : jmM} {Q : Option Value → jmM → Prop} : AW d 58 163 [some (.ref x), l1, l2, l3, l4] [] m Q ↔ AW d 58 164 [some (.ref x), l1, l2, l3, l4] [.ref x] m Q := A_aload_n hB_X5_addRow dX5_addRow_163 rfl
theorem dX5_addRow_164 : decode cX5_addRow 164 = .ok (.getfield 67, 3) := by decide +kernel
theorem tX5_addRow_164 {d : Nat} {l0 l1 l2 l3 l4 : Option Value} {a : Nat} {m : jmM} {Q : Option Value → jmM → Prop} : AW d 58 164 [l0, l1, l2, l3, l4] [.ref a] m Q ↔ (mS m a).1 = 5 ∧ AW d 58 167 [l0, l1, l2, l3, l4] [va_rf (mR m a 16)] m Q := A_getfield (f := fun m a => va_rf (mR m a 16)) hB_X5_addRow dX5_addRow_164 hO_X5_addRow fF_5_67 rfl
theorem dX5_addRow_167 : decode cX5_addRow 167 = .ok (.aload_n 0, 1) := by decide +kernel
theorem tX5_addRow_167 {d : Nat} {l1 l2 l3 l4 : Option Value} {v0 : Value} {x : Nat} {m : jmM} {Q : Option Value → jmM → Prop} : AW d 58 167 [some (.ref x), l1, l2, l3, l4] [v0] m Q ↔ AW d 58 168 [some (.ref x), l1, l2, l3, l4] [.ref x, v0] m Q := A_aload_n hB_X5_addRow dX5_addRow_167 rfl
theorem dX5_addRow_168 : decode cX5_addRow 168 = .ok (.getfield 51, 3) := by decide +kernel
theorem tX5_addRow_168 {d : Nat} {l0 l1 l2 l3 l4 : Option Value} {v1 : Value} {a : Nat} {m : jmM} {Q : Option Value → jmM → Prop} : AW d 58 168 [l0, l1, l2, l3, l4] [.ref a, v1] m Q ↔ (mS m a).1 = 5 ∧ AW d 58 171 [l0, l1, l2, l3, l4] [.int (mI m a 11), v1] m Q := A_getfield (f := fun m a => .int (mI m a 11)) hB_X5_addRow dX5_addRow_168 hO_X5_addRow fF_5_51 rfl
theorem dX5_addRow_171 : decode cX5_addRow 171 = .ok (.iconst 0, 1) := by decide +kernel
theorem tX5_addRow_171 {d : Nat} {l0 l1 l2 l3 l4 : Option Value} {v0 v1 : Value} {m : jmM} {Q : Option Value → jmM → Prop} : AW d 58 171 [l0, l1, l2, l3, l4] [v0, v1] m Q ↔ AW d 58 172 [l0, l1, l2, l3, l4] [.int 0, v0, v1] m Q := A_iconst hB_X5_addRow dX5_addRow_171 (by decide)
theorem dX5_addRow_172 : decode cX5_addRow 172 = .ok (.bastore, 1) := by decide +kernel
theorem tX5_addRow_172 {d : Nat} {l0 l1 l2 l3 l4 : Option Value} {x i : Int32} {a : Nat} {m : jmM} {Q : Option Value → jmM → Prop} : AW d 58 172 [l0, l1, l2, l3, l4] [.int x, .int i, .ref a] m Q ↔ (((mS m a).1 = 22 ∨ (mS m a).1 = 23) ∧ jIx i (mS m a).2) ∧ AW d 58 173 [l0, l1, l2, l3, l4] [] (cI m a (jup (mI m a) (jx i) (if (mS m a).1 = 22 then vp_nar .byte x else vp_nar .boolean x))) Q := A_bastore hB_X5_addRow dX5_addRow_172
theorem dX5_addRow_173 : decode cX5_addRow 173 = .ok (.aload_n 0, 1) := by decide +kernel
theorem tX5_addRow_173 {d : Nat} {l1 l2 l3 l4 : Option Value} {x : Nat} {m : jmM} {Q : Option Value → jmM → Prop} : AW d 58 173 [some (.ref x), l1, l2, l3, l4] [] m Q ↔ AW d 58 174 [some (.ref x), l1, l2, l3, l4] [.ref x] m Q := A_aload_n hB_X5_addRow dX5_addRow_173 rfl
theorem dX5_addRow_174 : decode cX5_addRow 174 = .ok (.dup, 1) := by decide +kernel
theorem tX5_addRow_174 {d : Nat} {l0 l1 l2 l3 l4 : Option Value} {x : Nat} {m : jmM} {Q : Option Value → jmM → Prop} : AW d 58 174 [l0, l1, l2, l3, l4] [.ref x] m Q ↔ AW d 58 175 [l0, l1, l2, l3, l4] [.ref x, .ref x] m Q := A_dup_a hB_X5_addRow dX5_addRow_174
theorem dX5_addRow_175 : decode cX5_addRow 175 = .ok (.getfield 33, 3) := by decide +kernel
theorem tX5_addRow_175 {d : Nat} {l0 l1 l2 l3 l4 : Option Value} {v1 : Value} {a : Nat} {m : jmM} {Q : Option Value → jmM → Prop} : AW d 58 175 [l0, l1, l2, l3, l4] [.ref a, v1] m Q ↔ (mS m a).1 = 5 ∧ AW d 58 178 [l0, l1, l2, l3, l4] [.int (mI m a 5), v1] m Q := A_getfield (f := fun m a => .int (mI m a 5)) hB_X5_addRow dX5_addRow_175 hO_X5_addRow fF_5_33 rfl
theorem dX5_addRow_178 : decode cX5_addRow 178 = .ok (.iload_n 1, 1) := by decide +kernel
theorem tX5_addRow_178 {d : Nat} {l0 l2 l3 l4 : Option Value} {v0 v1 : Value} {x : Int32} {m : jmM} {Q : Option Value → jmM → Prop} : AW d 58 178 [l0, some (.int x), l2, l3, l4] [v0, v1] m Q ↔ AW d 58 179 [l0, some (.int x), l2, l3, l4] [.int x, v0, v1] m Q := A_iload_n hB_X5_addRow dX5_addRow_178 rfl
theorem dX5_addRow_179 : decode cX5_addRow 179 = .ok (.isub, 1) := by decide +kernel
theorem tX5_addRow_179 {d : Nat} {l0 l1 l2 l3 l4 : Option Value} {v2 : Value} {x y : Int32} {m : jmM} {Q : Option Value → jmM → Prop} : AW d 58 179 [l0, l1, l2, l3, l4] [.int y, .int x, v2] m Q ↔ AW d 58 180 [l0, l1, l2, l3, l4] [.int (x - y), v2] m Q := A_isub hB_X5_addRow dX5_addRow_179
theorem dX5_addRow_180 : decode cX5_addRow 180 = .ok (.putfield 33, 3) := by decide +kernel
theorem tX5_addRow_180 {d : Nat} {l0 l1 l2 l3 l4 : Option Value} {x : Int32} {a : Nat} {m : jmM} {Q : Option Value → jmM → Prop} : AW d 58 180 [l0, l1, l2, l3, l4] [.int x, .ref a] m Q ↔ (mS m a).1 = 5 ∧ AW d 58 183 [l0, l1, l2, l3, l4] [] (cI m a (jup (mI m a) 5 x)) Q := A_putI hB_X5_addRow dX5_addRow_180 hO_X5_addRow fF_5_33 rfl (fun h => Bool.noConfusion h)
theorem dX5_addRow_183 : decode cX5_addRow 183 = .ok (.aload_n 0, 1) := by decide +kernel
theorem tX5_addRow_183 {d : Nat} {l1 l2 l3 l4 : Option Value} {x : Nat} {m : jmM} {Q : Option Value → jmM → Prop} : AW d 58 183 [some (.ref x), l1, l2, l3, l4] [] m Q ↔ AW d 58 184 [some (.ref x), l1, l2, l3, l4] [.ref x] m Q := A_aload_n hB_X5_addRow dX5_addRow_183 rfl
theorem dX5_addRow_184 : decode cX5_addRow 184 = .ok (.dup, 1) := by decide +kernel
theorem tX5_addRow_184 {d : Nat} {l0 l1 l2 l3 l4 : Option Value} {x : Nat} {m : jmM} {Q : Option Value → jmM → Prop} : AW d 58 184 [l0, l1, l2, l3, l4] [.ref x] m Q ↔ AW d 58 185 [l0, l1, l2, l3, l4] [.ref x, .ref x] m Q := A_dup_a hB_X5_addRow dX5_addRow_184
theorem dX5_addRow_185 : decode cX5_addRow 185 = .ok (.getfield 45, 3) := by decide +kernel
theorem tX5_addRow_185 {d : Nat} {l0 l1 l2 l3 l4 : Option Value} {v1 : Value} {a : Nat} {m : jmM} {Q : Option Value → jmM → Prop} : AW d 58 185 [l0, l1, l2, l3, l4] [.ref a, v1] m Q ↔ (mS m a).1 = 5 ∧ AW d 58 188 [l0, l1, l2, l3, l4] [.int (mI m a 9), v1] m Q := A_getfield (f := fun m a => .int (mI m a 9)) hB_X5_addRow dX5_addRow_185 hO_X5_addRow fF_5_45 rfl
theorem dX5_addRow_188 : decode cX5_addRow 188 = .ok (.aload_n 0, 1) := by decide +kernel
theorem tX5_addRow_188 {d : Nat} {l1 l2 l3 l4 : Option Value} {v0 v1 : Value} {x : Nat} {m : jmM} {Q : Option Value → jmM → Prop} : AW d 58 188 [some (.ref x), l1, l2, l3, l4] [v0, v1] m Q ↔ AW d 58 189 [some (.ref x), l1, l2, l3, l4] [.ref x, v0, v1] m Q := A_aload_n hB_X5_addRow dX5_addRow_188 rfl
theorem dX5_addRow_189 : decode cX5_addRow 189 = .ok (.getfield 42, 3) := by decide +kernel
theorem tX5_addRow_189 {d : Nat} {l0 l1 l2 l3 l4 : Option Value} {v1 v2 : Value} {a : Nat} {m : jmM} {Q : Option Value → jmM → Prop} : AW d 58 189 [l0, l1, l2, l3, l4] [.ref a, v1, v2] m Q ↔ (mS m a).1 = 5 ∧ AW d 58 192 [l0, l1, l2, l3, l4] [.int (mI m a 8), v1, v2] m Q := A_getfield (f := fun m a => .int (mI m a 8)) hB_X5_addRow dX5_addRow_189 hO_X5_addRow fF_5_42 rfl
theorem dX5_addRow_192 : decode cX5_addRow 192 = .ok (.iadd, 1) := by decide +kernel
theorem tX5_addRow_192 {d : Nat} {l0 l1 l2 l3 l4 : Option Value} {v2 : Value} {x y : Int32} {m : jmM} {Q : Option Value → jmM → Prop} : AW d 58 192 [l0, l1, l2, l3, l4] [.int y, .int x, v2] m Q ↔ AW d 58 193 [l0, l1, l2, l3, l4] [.int (x + y), v2] m Q := A_iadd hB_X5_addRow dX5_addRow_192
theorem dX5_addRow_193 : decode cX5_addRow 193 = .ok (.putfield 45, 3) := by decide +kernel
theorem tX5_addRow_193 {d : Nat} {l0 l1 l2 l3 l4 : Option Value} {x : Int32} {a : Nat} {m : jmM} {Q : Option Value → jmM → Prop} : AW d 58 193 [l0, l1, l2, l3, l4] [.int x, .ref a] m Q ↔ (mS m a).1 = 5 ∧ AW d 58 196 [l0, l1, l2, l3, l4] [] (cI m a (jup (mI m a) 9 x)) Q := A_putI hB_X5_addRow dX5_addRow_193 hO_X5_addRow fF_5_45 rfl (fun h => Bool.noConfusion h)
theorem dX5_addRow_196 : decode cX5_addRow 196 = .ok (.aload_n 0, 1) := by decide +kernel
theorem tX5_addRow_196 {d : Nat} {l1 l2 l3 l4 : Option Value} {x : Nat} {m : jmM} {Q : Option Value → jmM → Prop} : AW d 58 196 [some (.ref x), l1, l2, l3, l4] [] m Q ↔ AW d 58 197 [some (.ref x), l1, l2, l3, l4] [.ref x] m Q := A_aload_n hB_X5_addRow dX5_addRow_196 rfl
theorem dX5_addRow_197 : decode cX5_addRow 197 = .ok (.dup, 1) := by decide +kernel
theorem tX5_addRow_197 {d : Nat} {l0 l1 l2 l3 l4 : Option Value} {x : Nat} {m : jmM} {Q : Option Value → jmM → Prop} : AW d 58 197 [l0, l1, l2, l3, l4] [.ref x] m Q ↔ AW d 58 198 [l0, l1, l2, l3, l4] [.ref x, .ref x] m Q := A_dup_a hB_X5_addRow dX5_addRow_197
theorem dX5_addRow_198 : decode cX5_addRow 198 = .ok (.getfield 51, 3) := by decide +kernel
theorem tX5_addRow_198 {d : Nat} {l0 l1 l2 l3 l4 : Option Value} {v1 : Value} {a : Nat} {m : jmM} {Q : Option Value → jmM → Prop} : AW d 58 198 [l0, l1, l2, l3, l4] [.ref a, v1] m Q ↔ (mS m a).1 = 5 ∧ AW d 58 201 [l0, l1, l2, l3, l4] [.int (mI m a 11), v1] m Q := A_getfield (f := fun m a => .int (mI m a 11)) hB_X5_addRow dX5_addRow_198 hO_X5_addRow fF_5_51 rfl
theorem dX5_addRow_201 : decode cX5_addRow 201 = .ok (.iconst 1, 1) := by decide +kernel
theorem tX5_addRow_201 {d : Nat} {l0 l1 l2 l3 l4 : Option Value} {v0 v1 : Value} {m : jmM} {Q : Option Value → jmM → Prop} : AW d 58 201 [l0, l1, l2, l3, l4] [v0, v1] m Q ↔ AW d 58 202 [l0, l1, l2, l3, l4] [.int 1, v0, v1] m Q := A_iconst hB_X5_addRow dX5_addRow_201 (by decide)
theorem dX5_addRow_202 : decode cX5_addRow 202 = .ok (.iadd, 1) := by decide +kernel
theorem tX5_addRow_202 {d : Nat} {l0 l1 l2 l3 l4 : Option Value} {v2 : Value} {x y : Int32} {m : jmM} {Q : Option Value → jmM → Prop} : AW d 58 202 [l0, l1, l2, l3, l4] [.int y, .int x, v2] m Q ↔ AW d 58 203 [l0, l1, l2, l3, l4] [.int (x + y), v2] m Q := A_iadd hB_X5_addRow dX5_addRow_202
theorem dX5_addRow_203 : decode cX5_addRow 203 = .ok (.putfield 51, 3) := by decide +kernel
theorem tX5_addRow_203 {d : Nat} {l0 l1 l2 l3 l4 : Option Value} {x : Int32} {a : Nat} {m : jmM} {Q : Option Value → jmM → Prop} : AW d 58 203 [l0, l1, l2, l3, l4] [.int x, .ref a] m Q ↔ (mS m a).1 = 5 ∧ AW d 58 206 [l0, l1, l2, l3, l4] [] (cI m a (jup (mI m a) 11 x)) Q := A_putI hB_X5_addRow dX5_addRow_203 hO_X5_addRow fF_5_51 rfl (fun h => Bool.noConfusion h)
theorem dX5_addRow_206 : decode cX5_addRow 206 = .ok (.return_, 1) := by decide +kernel
theorem tX5_addRow_206 {d : Nat} {l0 l1 l2 l3 l4 : Option Value} {m : jmM} {Q : Option Value → jmM → Prop} : AW d 58 206 [l0, l1, l2, l3, l4] [] m Q ↔ Q none m := A_return hB_X5_addRow dX5_addRow_206 hR_X5_addRow
theorem hB_X5_howBehindMinute : jB 59 = cX5_howBehindMinute := rfl
theorem hO_X5_howBehindMinute : jO 59 = 5 := rfl
theorem hR_X5_howBehindMinute : jRt 59 = (some .int) := rfl
theorem nX5_howBehindMinute (d : Nat) (x0 : Nat) (m : jmM) (Q : Option Value → jmM → Prop) : CC (d + 1) 59 [.ref x0] m Q ↔ AW d 59 0 [some (.ref x0)] [] m Q := CC_body (Nat.le_of_ble_eq_true rfl)
theorem dX5_howBehindMinute_0 : decode cX5_howBehindMinute 0 = .ok (.aload_n 0, 1) := by decide +kernel
theorem tX5_howBehindMinute_0 {d : Nat} {x : Nat} {m : jmM} {Q : Option Value → jmM → Prop} : AW d 59 0 [some (.ref x)] [] m Q ↔ AW d 59 1 [some (.ref x)] [.ref x] m Q := A_aload_n hB_X5_howBehindMinute dX5_howBehindMinute_0 rfl
theorem dX5_howBehindMinute_1 : decode cX5_howBehindMinute 1 = .ok (.getfield 33, 3) := by decide +kernel
theorem tX5_howBehindMinute_1 {d : Nat} {l0 : Option Value} {a : Nat} {m : jmM} {Q : Option Value → jmM → Prop} : AW d 59 1 [l0] [.ref a] m Q ↔ (mS m a).1 = 5 ∧ AW d 59 4 [l0] [.int (mI m a 5)] m Q := A_getfield (f := fun m a => .int (mI m a 5)) hB_X5_howBehindMinute dX5_howBehindMinute_1 hO_X5_howBehindMinute fF_5_33 rfl
theorem dX5_howBehindMinute_4 : decode cX5_howBehindMinute 4 = .ok (.ifCond .ne 5, 3) := by decide +kernel
theorem tX5_howBehindMinute_4 {d : Nat} {l0 : Option Value} {x : Int32} {m : jmM} {Q : Option Value → jmM → Prop} : AW d 59 4 [l0] [.int x] m Q ↔ if x = 0 then AW d 59 7 [l0] [] m Q else AW d 59 9 [l0] [] m Q := A_if_ne hB_X5_howBehindMinute dX5_howBehindMinute_4 (by decide)
theorem dX5_howBehindMinute_7 : decode cX5_howBehindMinute 7 = .ok (.iconst 2, 1) := by decide +kernel
theorem tX5_howBehindMinute_7 {d : Nat} {l0 : Option Value} {m : jmM} {Q : Option Value → jmM → Prop} : AW d 59 7 [l0] [] m Q ↔ AW d 59 8 [l0] [.int 2] m Q := A_iconst hB_X5_howBehindMinute dX5_howBehindMinute_7 (by decide)
theorem dX5_howBehindMinute_8 : decode cX5_howBehindMinute 8 = .ok (.ireturn, 1) := by decide +kernel
theorem tX5_howBehindMinute_8 {d : Nat} {l0 : Option Value} {x : Int32} {m : jmM} {Q : Option Value → jmM → Prop} : AW d 59 8 [l0] [.int x] m Q ↔ Q (some (.int x)) m := A_ireturn hB_X5_howBehindMinute dX5_howBehindMinute_8 hR_X5_howBehindMinute
theorem dX5_howBehindMinute_9 : decode cX5_howBehindMinute 9 = .ok (.aload_n 0, 1) := by decide +kernel
theorem tX5_howBehindMinute_9 {d : Nat} {x : Nat} {m : jmM} {Q : Option Value → jmM → Prop} : AW d 59 9 [some (.ref x)] [] m Q ↔ AW d 59 10 [some (.ref x)] [.ref x] m Q := A_aload_n hB_X5_howBehindMinute dX5_howBehindMinute_9 rfl
theorem dX5_howBehindMinute_10 : decode cX5_howBehindMinute 10 = .ok (.getfield 36, 3) := by decide +kernel
theorem tX5_howBehindMinute_10 {d : Nat} {l0 : Option Value} {a : Nat} {m : jmM} {Q : Option Value → jmM → Prop} : AW d 59 10 [l0] [.ref a] m Q ↔ (mS m a).1 = 5 ∧ AW d 59 13 [l0] [.int (mI m a 6)] m Q := A_getfield (f := fun m a => .int (mI m a 6)) hB_X5_howBehindMinute dX5_howBehindMinute_10 hO_X5_howBehindMinute fF_5_36 rfl
theorem dX5_howBehindMinute_13 : decode cX5_howBehindMinute 13 = .ok (.ifCond .ne 5, 3) := by decide +kernel
theorem tX5_howBehindMinute_13 {d : Nat} {l0 : Option Value} {x : Int32} {m : jmM} {Q : Option Value → jmM → Prop} : AW d 59 13 [l0] [.int x] m Q ↔ if x = 0 then AW d 59 16 [l0] [] m Q else AW d 59 18 [l0] [] m Q := A_if_ne hB_X5_howBehindMinute dX5_howBehindMinute_13 (by decide)
theorem dX5_howBehindMinute_16 : decode cX5_howBehindMinute 16 = .ok (.iconst 3, 1) := by decide +kernel
theorem tX5_howBehindMinute_16 {d : Nat} {l0 : Option Value} {m : jmM} {Q : Option Value → jmM → Prop} : AW d 59 16 [l0] [] m Q ↔ AW d 59 17 [l0] [.int 3] m Q := A_iconst hB_X5_howBehindMinute dX5_howBehindMinute_16 (by decide)
theorem dX5_howBehindMinute_17 : decode cX5_howBehindMinute 17 = .ok (.ireturn, 1) := by decide +kernel
theorem tX5_howBehindMinute_17 {d : Nat} {l0 : Option Value} {x : Int32} {m : jmM} {Q : Option Value → jmM → Prop} : AW d 59 17 [l0] [.int x] m Q ↔ Q (some (.int x)) m := A_ireturn hB_X5_howBehindMinute dX5_howBehindMinute_17 hR_X5_howBehindMinute
theorem dX5_howBehindMinute_18 : decode cX5_howBehindMinute 18 = .ok (.aload_n 0, 1) := by decide +kernel
theorem tX5_howBehindMinute_18 {d : Nat} {x : Nat} {m : jmM} {Q : Option Value → jmM → Prop} : AW d 59 18 [some (.ref x)] [] m Q ↔ AW d 59 19 [some (.ref x)] [.ref x] m Q := A_aload_n hB_X5_howBehindMinute dX5_howBehindMinute_18 rfl
theorem dX5_howBehindMinute_19 : decode cX5_howBehindMinute 19 = .ok (.getfield 51, 3) := by decide +kernel
theorem tX5_howBehindMinute_19 {d : Nat} {l0 : Option Value} {a : Nat} {m : jmM} {Q : Option Value → jmM → Prop} : AW d 59 19 [l0] [.ref a] m Q ↔ (mS m a).1 = 5 ∧ AW d 59 22 [l0] [.int (mI m a 11)] m Q := A_getfield (f := fun m a => .int (mI m a 11)) hB_X5_howBehindMinute dX5_howBehindMinute_19 hO_X5_howBehindMinute fF_5_51 rfl
theorem dX5_howBehindMinute_22 : decode cX5_howBehindMinute 22 = .ok (.sipush 600, 3) := by decide +kernel
theorem tX5_howBehindMinute_22 {d : Nat} {l0 : Option Value} {v0 : Value} {m : jmM} {Q : Option Value → jmM → Prop} : AW d 59 22 [l0] [v0] m Q ↔ AW d 59 25 [l0] [.int 600, v0] m Q := A_sipush hB_X5_howBehindMinute dX5_howBehindMinute_22 rfl
theorem dX5_howBehindMinute_25 : decode cX5_howBehindMinute 25 = .ok (.if_icmp .lt 5, 3) := by decide +kernel
theorem tX5_howBehindMinute_25 {d : Nat} {l0 : Option Value} {x y : Int32} {m : jmM} {Q : Option Value → jmM → Prop} : AW d 59 25 [l0] [.int y, .int x] m Q ↔ if x < y then AW d 59 30 [l0] [] m Q else AW d 59 28 [l0] [] m Q := A_icmp_lt hB_X5_howBehindMinute dX5_howBehindMinute_25 (by decide)
theorem dX5_howBehindMinute_28 : decode cX5_howBehindMinute 28 = .ok (.iconst 4, 1) := by decide +kernel
theorem tX5_howBehindMinute_28 {d : Nat} {l0 : Option Value} {m : jmM} {Q : Option Value → jmM → Prop} : AW d 59 28 [l0] [] m Q ↔ AW d 59 29 [l0] [.int 4] m Q := A_iconst hB_X5_howBehindMinute dX5_howBehindMinute_28 (by decide)
theorem dX5_howBehindMinute_29 : decode cX5_howBehindMinute 29 = .ok (.ireturn, 1) := by decide +kernel
theorem tX5_howBehindMinute_29 {d : Nat} {l0 : Option Value} {x : Int32} {m : jmM} {Q : Option Value → jmM → Prop} : AW d 59 29 [l0] [.int x] m Q ↔ Q (some (.int x)) m := A_ireturn hB_X5_howBehindMinute dX5_howBehindMinute_29 hR_X5_howBehindMinute
theorem dX5_howBehindMinute_30 : decode cX5_howBehindMinute 30 = .ok (.aload_n 0, 1) := by decide +kernel
theorem tX5_howBehindMinute_30 {d : Nat} {x : Nat} {m : jmM} {Q : Option Value → jmM → Prop} : AW d 59 30 [some (.ref x)] [] m Q ↔ AW d 59 31 [some (.ref x)] [.ref x] m Q := A_aload_n hB_X5_howBehindMinute dX5_howBehindMinute_30 rfl
theorem dX5_howBehindMinute_31 : decode cX5_howBehindMinute 31 = .ok (.getfield 48, 3) := by decide +kernel
theorem tX5_howBehindMinute_31 {d : Nat} {l0 : Option Value} {a : Nat} {m : jmM} {Q : Option Value → jmM → Prop} : AW d 59 31 [l0] [.ref a] m Q ↔ (mS m a).1 = 5 ∧ AW d 59 34 [l0] [.int (mI m a 10)] m Q := A_getfield (f := fun m a => .int (mI m a 10)) hB_X5_howBehindMinute dX5_howBehindMinute_31 hO_X5_howBehindMinute fF_5_48 rfl
theorem dX5_howBehindMinute_34 : decode cX5_howBehindMinute 34 = .ok (.aload_n 0, 1) := by decide +kernel
theorem tX5_howBehindMinute_34 {d : Nat} {v0 : Value} {x : Nat} {m : jmM} {Q : Option Value → jmM → Prop} : AW d 59 34 [some (.ref x)] [v0] m Q ↔ AW d 59 35 [some (.ref x)] [.ref x, v0] m Q := A_aload_n hB_X5_howBehindMinute dX5_howBehindMinute_34 rfl
theorem dX5_howBehindMinute_35 : decode cX5_howBehindMinute 35 = .ok (.getfield 12, 3) := by decide +kernel
theorem tX5_howBehindMinute_35 {d : Nat} {l0 : Option Value} {v1 : Value} {a : Nat} {m : jmM} {Q : Option Value → jmM → Prop} : AW d 59 35 [l0] [.ref a, v1] m Q ↔ (mS m a).1 = 5 ∧ AW d 59 38 [l0] [va_rf (mR m a 0), v1] m Q := A_getfield (f := fun m a => va_rf (mR m a 0)) hB_X5_howBehindMinute dX5_howBehindMinute_35 hO_X5_howBehindMinute fF_5_12 rfl
theorem dX5_howBehindMinute_38 : decode cX5_howBehindMinute 38 = .ok (.invokevirtual 191, 3) := by decide +kernel
theorem tX5_howBehindMinute_38 {d : Nat} {l0 : Option Value} {v1 : Value} {a : Nat} {m : jmM} {Q : Option Value → jmM → Prop} : AW d 59 38 [l0] [.ref a, v1] m Q ↔ (mS m a).1 = 8 ∧ CC d 126 [.ref a] m (jK d 59 41 [l0] [v1] Q) := A_callV hB_X5_howBehindMinute dX5_howBehindMinute_38 hO_X5_howBehindMinute fS_5_191 ⟨Nat.le_of_ble_eq_true rfl, Nat.le_of_ble_eq_true rfl⟩ rfl rfl rfl
theorem dX5_howBehindMinute_41 : decode cX5_howBehindMinute 41 = .ok (.if_icmp .lt 7, 3) := by decide +kernel
theorem tX5_howBehindMinute_41 {d : Nat} {l0 : Option Value} {x y : Int32} {m : jmM} {Q : Option Value → jmM → Prop} : AW d 59 41 [l0] [.int y, .int x] m Q ↔ if x < y then AW d 59 48 [l0] [] m Q else AW d 59 44 [l0] [] m Q := A_icmp_lt hB_X5_howBehindMinute dX5_howBehindMinute_41 (by decide)
theorem dX5_howBehindMinute_44 : decode cX5_howBehindMinute 44 = .ok (.iconst 5, 1) := by decide +kernel
theorem tX5_howBehindMinute_44 {d : Nat} {l0 : Option Value} {m : jmM} {Q : Option Value → jmM → Prop} : AW d 59 44 [l0] [] m Q ↔ AW d 59 45 [l0] [.int 5] m Q := A_iconst hB_X5_howBehindMinute dX5_howBehindMinute_44 (by decide)
theorem dX5_howBehindMinute_45 : decode cX5_howBehindMinute 45 = .ok (.goto 4, 3) := by decide +kernel
theorem tX5_howBehindMinute_45 {d : Nat} {l0 : Option Value} {v0 : Value} {m : jmM} {Q : Option Value → jmM → Prop} : AW d 59 45 [l0] [v0] m Q ↔ AW d 59 49 [l0] [v0] m Q := A_goto hB_X5_howBehindMinute dX5_howBehindMinute_45 (by decide)
theorem dX5_howBehindMinute_48 : decode cX5_howBehindMinute 48 = .ok (.iconst 1, 1) := by decide +kernel
theorem tX5_howBehindMinute_48 {d : Nat} {l0 : Option Value} {m : jmM} {Q : Option Value → jmM → Prop} : AW d 59 48 [l0] [] m Q ↔ AW d 59 49 [l0] [.int 1] m Q := A_iconst hB_X5_howBehindMinute dX5_howBehindMinute_48 (by decide)
theorem dX5_howBehindMinute_49 : decode cX5_howBehindMinute 49 = .ok (.ireturn, 1) := by decide +kernel
theorem tX5_howBehindMinute_49 {d : Nat} {l0 : Option Value} {x : Int32} {m : jmM} {Q : Option Value → jmM → Prop} : AW d 59 49 [l0] [.int x] m Q ↔ Q (some (.int x)) m := A_ireturn hB_X5_howBehindMinute dX5_howBehindMinute_49 hR_X5_howBehindMinute
theorem hB_X5_meltBack : jB 60 = cX5_meltBack := rfl
theorem hO_X5_meltBack : jO 60 = 5 := rfl
theorem hR_X5_meltBack : jRt 60 = (some .int) := rfl
theorem nX5_meltBack (d : Nat) (x0 : Nat) (x1 : Int32) (m : jmM) (Q : Option Value → jmM → Prop) : CC (d + 1) 60 [.ref x0, .int x1] m Q ↔ AW d 60 0 [some (.ref x0), some (.int x1), none, none, none] [] m Q := CC_body (Nat.le_of_ble_eq_true rfl)
theorem dX5_meltBack_0 : decode cX5_meltBack 0 = .ok (.aload_n 0, 1) := by decide +kernel
theorem tX5_meltBack_0 {d : Nat} {l1 l2 l3 l4 : Option Value} {x : Nat} {m : jmM} {Q : Option Value → jmM → Prop} : AW d 60 0 [some (.ref x), l1, l2, l3, l4] [] m Q ↔ AW d 60 1 [some (.ref x), l1, l2, l3, l4] [.ref x] m Q := A_aload_n hB_X5_meltBack dX5_meltBack_0 rfl
theorem dX5_meltBack_1 : decode cX5_meltBack 1 = .ok (.getfield 51, 3) := by decide +kernel
theorem tX5_meltBack_1 {d : Nat} {l0 l1 l2 l3 l4 : Option Value} {a : Nat} {m : jmM} {Q : Option Value → jmM → Prop} : AW d 60 1 [l0, l1, l2, l3, l4] [.ref a] m Q ↔ (mS m a).1 = 5 ∧ AW d 60 4 [l0, l1, l2, l3, l4] [.int (mI m a 11)] m Q := A_getfield (f := fun m a => .int (mI m a 11)) hB_X5_meltBack dX5_meltBack_1 hO_X5_meltBack fF_5_51 rfl
theorem dX5_meltBack_4 : decode cX5_meltBack 4 = .ok (.iload_n 1, 1) := by decide +kernel
theorem tX5_meltBack_4 {d : Nat} {l0 l2 l3 l4 : Option Value} {v0 : Value} {x : Int32} {m : jmM} {Q : Option Value → jmM → Prop} : AW d 60 4 [l0, some (.int x), l2, l3, l4] [v0] m Q ↔ AW d 60 5 [l0, some (.int x), l2, l3, l4] [.int x, v0] m Q := A_iload_n hB_X5_meltBack dX5_meltBack_4 rfl
theorem dX5_meltBack_5 : decode cX5_meltBack 5 = .ok (.isub, 1) := by decide +kernel
theorem tX5_meltBack_5 {d : Nat} {l0 l1 l2 l3 l4 : Option Value} {x y : Int32} {m : jmM} {Q : Option Value → jmM → Prop} : AW d 60 5 [l0, l1, l2, l3, l4] [.int y, .int x] m Q ↔ AW d 60 6 [l0, l1, l2, l3, l4] [.int (x - y)] m Q := A_isub hB_X5_meltBack dX5_meltBack_5
theorem dX5_meltBack_6 : decode cX5_meltBack 6 = .ok (.istore_n 2, 1) := by decide +kernel
theorem tX5_meltBack_6 {d : Nat} {l0 l1 l2 l3 l4 : Option Value} {x : Int32} {m : jmM} {Q : Option Value → jmM → Prop} : AW d 60 6 [l0, l1, l2, l3, l4] [.int x] m Q ↔ AW d 60 7 [l0, jc1 l1, some (.int x), l3, l4] [] m Q := A_istore_n hB_X5_meltBack dX5_meltBack_6 (Nat.le_of_ble_eq_true rfl) rfl
theorem dX5_meltBack_7 : decode cX5_meltBack 7 = .ok (.iload_n 1, 1) := by decide +kernel
theorem tX5_meltBack_7 {d : Nat} {l0 l2 l3 l4 : Option Value} {x : Int32} {m : jmM} {Q : Option Value → jmM → Prop} : AW d 60 7 [l0, some (.int x), l2, l3, l4] [] m Q ↔ AW d 60 8 [l0, some (.int x), l2, l3, l4] [.int x] m Q := A_iload_n hB_X5_meltBack dX5_meltBack_7 rfl
theorem dX5_meltBack_8 : decode cX5_meltBack 8 = .ok (.istore_n 3, 1) := by decide +kernel
theorem tX5_meltBack_8 {d : Nat} {l0 l1 l2 l3 l4 : Option Value} {x : Int32} {m : jmM} {Q : Option Value → jmM → Prop} : AW d 60 8 [l0, l1, l2, l3, l4] [.int x] m Q ↔ AW d 60 9 [l0, l1, jc1 l2, some (.int x), l4] [] m Q := A_istore_n hB_X5_meltBack dX5_meltBack_8 (Nat.le_of_ble_eq_true rfl) rfl
theorem dX5_meltBack_9 : decode cX5_meltBack 9 = .ok (.iload_n 3, 1) := by decide +kernel
theorem tX5_meltBack_9 {d : Nat} {l0 l1 l2 l4 : Option Value} {x : Int32} {m : jmM} {Q : Option Value → jmM → Prop} : AW d 60 9 [l0, l1, l2, some (.int x), l4] [] m Q ↔ AW d 60 10 [l0, l1, l2, some (.int x), l4] [.int x] m Q := A_iload_n hB_X5_meltBack dX5_meltBack_9 rfl
theorem dX5_meltBack_10 : decode cX5_meltBack 10 = .ok (.aload_n 0, 1) := by decide +kernel
theorem tX5_meltBack_10 {d : Nat} {l1 l2 l3 l4 : Option Value} {v0 : Value} {x : Nat} {m : jmM} {Q : Option Value → jmM → Prop} : AW d 60 10 [some (.ref x), l1, l2, l3, l4] [v0] m Q ↔ AW d 60 11 [some (.ref x), l1, l2, l3, l4] [.ref x, v0] m Q := A_aload_n hB_X5_meltBack dX5_meltBack_10 rfl
theorem dX5_meltBack_11 : decode cX5_meltBack 11 = .ok (.getfield 51, 3) := by decide +kernel
theorem tX5_meltBack_11 {d : Nat} {l0 l1 l2 l3 l4 : Option Value} {v1 : Value} {a : Nat} {m : jmM} {Q : Option Value → jmM → Prop} : AW d 60 11 [l0, l1, l2, l3, l4] [.ref a, v1] m Q ↔ (mS m a).1 = 5 ∧ AW d 60 14 [l0, l1, l2, l3, l4] [.int (mI m a 11), v1] m Q := A_getfield (f := fun m a => .int (mI m a 11)) hB_X5_meltBack dX5_meltBack_11 hO_X5_meltBack fF_5_51 rfl
theorem dX5_meltBack_14 : decode cX5_meltBack 14 = .ok (.if_icmp .ge 70, 3) := by decide +kernel
theorem tX5_meltBack_14 {d : Nat} {l0 l1 l2 l3 l4 : Option Value} {x y : Int32} {m : jmM} {Q : Option Value → jmM → Prop} : AW d 60 14 [l0, l1, l2, l3, l4] [.int y, .int x] m Q ↔ if y ≤ x then AW d 60 84 [l0, l1, l2, l3, l4] [] m Q else AW d 60 17 [l0, l1, l2, l3, l4] [] m Q := A_icmp_ge hB_X5_meltBack dX5_meltBack_14 (by decide)
theorem dX5_meltBack_17 : decode cX5_meltBack 17 = .ok (.aload_n 0, 1) := by decide +kernel
theorem tX5_meltBack_17 {d : Nat} {l1 l2 l3 l4 : Option Value} {x : Nat} {m : jmM} {Q : Option Value → jmM → Prop} : AW d 60 17 [some (.ref x), l1, l2, l3, l4] [] m Q ↔ AW d 60 18 [some (.ref x), l1, l2, l3, l4] [.ref x] m Q := A_aload_n hB_X5_meltBack dX5_meltBack_17 rfl
theorem dX5_meltBack_18 : decode cX5_meltBack 18 = .ok (.dup, 1) := by decide +kernel
theorem tX5_meltBack_18 {d : Nat} {l0 l1 l2 l3 l4 : Option Value} {x : Nat} {m : jmM} {Q : Option Value → jmM → Prop} : AW d 60 18 [l0, l1, l2, l3, l4] [.ref x] m Q ↔ AW d 60 19 [l0, l1, l2, l3, l4] [.ref x, .ref x] m Q := A_dup_a hB_X5_meltBack dX5_meltBack_18
theorem dX5_meltBack_19 : decode cX5_meltBack 19 = .ok (.getfield 33, 3) := by decide +kernel
theorem tX5_meltBack_19 {d : Nat} {l0 l1 l2 l3 l4 : Option Value} {v1 : Value} {a : Nat} {m : jmM} {Q : Option Value → jmM → Prop} : AW d 60 19 [l0, l1, l2, l3, l4] [.ref a, v1] m Q ↔ (mS m a).1 = 5 ∧ AW d 60 22 [l0, l1, l2, l3, l4] [.int (mI m a 5), v1] m Q := A_getfield (f := fun m a => .int (mI m a 5)) hB_X5_meltBack dX5_meltBack_19 hO_X5_meltBack fF_5_33 rfl
theorem dX5_meltBack_22 : decode cX5_meltBack 22 = .ok (.aload_n 0, 1) := by decide +kernel
theorem tX5_meltBack_22 {d : Nat} {l1 l2 l3 l4 : Option Value} {v0 v1 : Value} {x : Nat} {m : jmM} {Q : Option Value → jmM → Prop} : AW d 60 22 [some (.ref x), l1, l2, l3, l4] [v0, v1] m Q ↔ AW d 60 23 [some (.ref x), l1, l2, l3, l4] [.ref x, v0, v1] m Q := A_aload_n hB_X5_meltBack dX5_meltBack_22 rfl
theorem dX5_meltBack_23 : decode cX5_meltBack 23 = .ok (.iload_n 3, 1) := by decide +kernel
theorem tX5_meltBack_23 {d : Nat} {l0 l1 l2 l4 : Option Value} {v0 v1 v2 : Value} {x : Int32} {m : jmM} {Q : Option Value → jmM → Prop} : AW d 60 23 [l0, l1, l2, some (.int x), l4] [v0, v1, v2] m Q ↔ AW d 60 24 [l0, l1, l2, some (.int x), l4] [.int x, v0, v1, v2] m Q := A_iload_n hB_X5_meltBack dX5_meltBack_23 rfl
theorem dX5_meltBack_24 : decode cX5_meltBack 24 = .ok (.invokevirtual 194, 3) := by decide +kernel
theorem tX5_meltBack_24 {d : Nat} {l0 l1 l2 l3 l4 : Option Value} {v2 v3 : Value} {y0 : Value} {a : Nat} {m : jmM} {Q : Option Value → jmM → Prop} : AW d 60 24 [l0, l1, l2, l3, l4] [y0, .ref a, v2, v3] m Q ↔ (mS m a).1 = 5 ∧ CC d 84 [.ref a, y0] m (jK d 60 27 [l0, l1, l2, l3, l4] [v2, v3] Q) := A_callV hB_X5_meltBack dX5_meltBack_24 hO_X5_meltBack fS_5_194 ⟨Nat.le_of_ble_eq_true rfl, Nat.le_of_ble_eq_true rfl⟩ rfl rfl rfl
theorem dX5_meltBack_27 : decode cX5_meltBack 27 = .ok (.iadd, 1) := by decide +kernel
theorem tX5_meltBack_27 {d : Nat} {l0 l1 l2 l3 l4 : Option Value} {v2 : Value} {x y : Int32} {m : jmM} {Q : Option Value → jmM → Prop} : AW d 60 27 [l0, l1, l2, l3, l4] [.int y, .int x, v2] m Q ↔ AW d 60 28 [l0, l1, l2, l3, l4] [.int (x + y), v2] m Q := A_iadd hB_X5_meltBack dX5_meltBack_27
theorem dX5_meltBack_28 : decode cX5_meltBack 28 = .ok (.putfield 33, 3) := by decide +kernel
theorem tX5_meltBack_28 {d : Nat} {l0 l1 l2 l3 l4 : Option Value} {x : Int32} {a : Nat} {m : jmM} {Q : Option Value → jmM → Prop} : AW d 60 28 [l0, l1, l2, l3, l4] [.int x, .ref a] m Q ↔ (mS m a).1 = 5 ∧ AW d 60 31 [l0, l1, l2, l3, l4] [] (cI m a (jup (mI m a) 5 x)) Q := A_putI hB_X5_meltBack dX5_meltBack_28 hO_X5_meltBack fF_5_33 rfl (fun h => Bool.noConfusion h)
theorem dX5_meltBack_31 : decode cX5_meltBack 31 = .ok (.aload_n 0, 1) := by decide +kernel
theorem tX5_meltBack_31 {d : Nat} {l1 l2 l3 l4 : Option Value} {x : Nat} {m : jmM} {Q : Option Value → jmM → Prop} : AW d 60 31 [some (.ref x), l1, l2, l3, l4] [] m Q ↔ AW d 60 32 [some (.ref x), l1, l2, l3, l4] [.ref x] m Q := A_aload_n hB_X5_meltBack dX5_meltBack_31 rfl
theorem dX5_meltBack_32 : decode cX5_meltBack 32 = .ok (.dup, 1) := by decide +kernel
theorem tX5_meltBack_32 {d : Nat} {l0 l1 l2 l3 l4 : Option Value} {x : Nat} {m : jmM} {Q : Option Value → jmM → Prop} : AW d 60 32 [l0, l1, l2, l3, l4] [.ref x] m Q ↔ AW d 60 33 [l0, l1, l2, l3, l4] [.ref x, .ref x] m Q := A_dup_a hB_X5_meltBack dX5_meltBack_32
theorem dX5_meltBack_33 : decode cX5_meltBack 33 = .ok (.getfield 45, 3) := by decide +kernel
theorem tX5_meltBack_33 {d : Nat} {l0 l1 l2 l3 l4 : Option Value} {v1 : Value} {a : Nat} {m : jmM} {Q : Option Value → jmM → Prop} : AW d 60 33 [l0, l1, l2, l3, l4] [.ref a, v1] m Q ↔ (mS m a).1 = 5 ∧ AW d 60 36 [l0, l1, l2, l3, l4] [.int (mI m a 9), v1] m Q := A_getfield (f := fun m a => .int (mI m a 9)) hB_X5_meltBack dX5_meltBack_33 hO_X5_meltBack fF_5_45 rfl
theorem dX5_meltBack_36 : decode cX5_meltBack 36 = .ok (.aload_n 0, 1) := by decide +kernel
theorem tX5_meltBack_36 {d : Nat} {l1 l2 l3 l4 : Option Value} {v0 v1 : Value} {x : Nat} {m : jmM} {Q : Option Value → jmM → Prop} : AW d 60 36 [some (.ref x), l1, l2, l3, l4] [v0, v1] m Q ↔ AW d 60 37 [some (.ref x), l1, l2, l3, l4] [.ref x, v0, v1] m Q := A_aload_n hB_X5_meltBack dX5_meltBack_36 rfl
theorem dX5_meltBack_37 : decode cX5_meltBack 37 = .ok (.iload_n 3, 1) := by decide +kernel
theorem tX5_meltBack_37 {d : Nat} {l0 l1 l2 l4 : Option Value} {v0 v1 v2 : Value} {x : Int32} {m : jmM} {Q : Option Value → jmM → Prop} : AW d 60 37 [l0, l1, l2, some (.int x), l4] [v0, v1, v2] m Q ↔ AW d 60 38 [l0, l1, l2, some (.int x), l4] [.int x, v0, v1, v2] m Q := A_iload_n hB_X5_meltBack dX5_meltBack_37 rfl
theorem dX5_meltBack_38 : decode cX5_meltBack 38 = .ok (.invokevirtual 197, 3) := by decide +kernel
theorem tX5_meltBack_38 {d : Nat} {l0 l1 l2 l3 l4 : Option Value} {v2 v3 : Value} {y0 : Value} {a : Nat} {m : jmM} {Q : Option Value → jmM → Prop} : AW d 60 38 [l0, l1, l2, l3, l4] [y0, .ref a, v2, v3] m Q ↔ (mS m a).1 = 5 ∧ CC d 83 [.ref a, y0] m (jK d 60 41 [l0, l1, l2, l3, l4] [v2, v3] Q) := A_callV hB_X5_meltBack dX5_meltBack_38 hO_X5_meltBack fS_5_197 ⟨Nat.le_of_ble_eq_true rfl, Nat.le_of_ble_eq_true rfl⟩ rfl rfl rfl
theorem dX5_meltBack_41 : decode cX5_meltBack 41 = .ok (.isub, 1) := by decide +kernel
theorem tX5_meltBack_41 {d : Nat} {l0 l1 l2 l3 l4 : Option Value} {v2 : Value} {x y : Int32} {m : jmM} {Q : Option Value → jmM → Prop} : AW d 60 41 [l0, l1, l2, l3, l4] [.int y, .int x, v2] m Q ↔ AW d 60 42 [l0, l1, l2, l3, l4] [.int (x - y), v2] m Q := A_isub hB_X5_meltBack dX5_meltBack_41
theorem dX5_meltBack_42 : decode cX5_meltBack 42 = .ok (.putfield 45, 3) := by decide +kernel
theorem tX5_meltBack_42 {d : Nat} {l0 l1 l2 l3 l4 : Option Value} {x : Int32} {a : Nat} {m : jmM} {Q : Option Value → jmM → Prop} : AW d 60 42 [l0, l1, l2, l3, l4] [.int x, .ref a] m Q ↔ (mS m a).1 = 5 ∧ AW d 60 45 [l0, l1, l2, l3, l4] [] (cI m a (jup (mI m a) 9 x)) Q := A_putI hB_X5_meltBack dX5_meltBack_42 hO_X5_meltBack fF_5_45 rfl (fun h => Bool.noConfusion h)
theorem dX5_meltBack_45 : decode cX5_meltBack 45 = .ok (.iconst 0, 1) := by decide +kernel
theorem tX5_meltBack_45 {d : Nat} {l0 l1 l2 l3 l4 : Option Value} {m : jmM} {Q : Option Value → jmM → Prop} : AW d 60 45 [l0, l1, l2, l3, l4] [] m Q ↔ AW d 60 46 [l0, l1, l2, l3, l4] [.int 0] m Q := A_iconst hB_X5_meltBack dX5_meltBack_45 (by decide)
theorem dX5_meltBack_46 : decode cX5_meltBack 46 = .ok (.istore 4, 2) := by decide +kernel
theorem tX5_meltBack_46 {d : Nat} {l0 l1 l2 l3 l4 : Option Value} {x : Int32} {m : jmM} {Q : Option Value → jmM → Prop} : AW d 60 46 [l0, l1, l2, l3, l4] [.int x] m Q ↔ AW d 60 48 [l0, l1, l2, jc1 l3, some (.int x)] [] m Q := A_istore hB_X5_meltBack dX5_meltBack_46 (Nat.le_of_ble_eq_true rfl) rfl
theorem dX5_meltBack_48 : decode cX5_meltBack 48 = .ok (.iload 4, 2) := by decide +kernel
theorem tX5_meltBack_48 {d : Nat} {l0 l1 l2 l3 : Option Value} {x : Int32} {m : jmM} {Q : Option Value → jmM → Prop} : AW d 60 48 [l0, l1, l2, l3, some (.int x)] [] m Q ↔ AW d 60 50 [l0, l1, l2, l3, some (.int x)] [.int x] m Q := A_iload hB_X5_meltBack dX5_meltBack_48 rfl
theorem dX5_meltBack_50 : decode cX5_meltBack 50 = .ok (.bipush 6, 2) := by decide +kernel
theorem tX5_meltBack_50 {d : Nat} {l0 l1 l2 l3 l4 : Option Value} {v0 : Value} {m : jmM} {Q : Option Value → jmM → Prop} : AW d 60 50 [l0, l1, l2, l3, l4] [v0] m Q ↔ AW d 60 52 [l0, l1, l2, l3, l4] [.int 6, v0] m Q := A_bipush hB_X5_meltBack dX5_meltBack_50 rfl
theorem dX5_meltBack_52 : decode cX5_meltBack 52 = .ok (.if_icmp .ge 26, 3) := by decide +kernel
theorem tX5_meltBack_52 {d : Nat} {l0 l1 l2 l3 l4 : Option Value} {x y : Int32} {m : jmM} {Q : Option Value → jmM → Prop} : AW d 60 52 [l0, l1, l2, l3, l4] [.int y, .int x] m Q ↔ if y ≤ x then AW d 60 78 [l0, l1, l2, l3, l4] [] m Q else AW d 60 55 [l0, l1, l2, l3, l4] [] m Q := A_icmp_ge hB_X5_meltBack dX5_meltBack_52 (by decide)
theorem dX5_meltBack_55 : decode cX5_meltBack 55 = .ok (.aload_n 0, 1) := by decide +kernel
theorem tX5_meltBack_55 {d : Nat} {l1 l2 l3 l4 : Option Value} {x : Nat} {m : jmM} {Q : Option Value → jmM → Prop} : AW d 60 55 [some (.ref x), l1, l2, l3, l4] [] m Q ↔ AW d 60 56 [some (.ref x), l1, l2, l3, l4] [.ref x] m Q := A_aload_n hB_X5_meltBack dX5_meltBack_55 rfl
theorem dX5_meltBack_56 : decode cX5_meltBack 56 = .ok (.getfield 75, 3) := by decide +kernel
theorem tX5_meltBack_56 {d : Nat} {l0 l1 l2 l3 l4 : Option Value} {a : Nat} {m : jmM} {Q : Option Value → jmM → Prop} : AW d 60 56 [l0, l1, l2, l3, l4] [.ref a] m Q ↔ (mS m a).1 = 5 ∧ AW d 60 59 [l0, l1, l2, l3, l4] [va_rf (mR m a 18)] m Q := A_getfield (f := fun m a => va_rf (mR m a 18)) hB_X5_meltBack dX5_meltBack_56 hO_X5_meltBack fF_5_75 rfl
theorem dX5_meltBack_59 : decode cX5_meltBack 59 = .ok (.iload 4, 2) := by decide +kernel
theorem tX5_meltBack_59 {d : Nat} {l0 l1 l2 l3 : Option Value} {v0 : Value} {x : Int32} {m : jmM} {Q : Option Value → jmM → Prop} : AW d 60 59 [l0, l1, l2, l3, some (.int x)] [v0] m Q ↔ AW d 60 61 [l0, l1, l2, l3, some (.int x)] [.int x, v0] m Q := A_iload hB_X5_meltBack dX5_meltBack_59 rfl
theorem dX5_meltBack_61 : decode cX5_meltBack 61 = .ok (.dup2, 1) := by decide +kernel
theorem tX5_meltBack_61 {d : Nat} {l0 l1 l2 l3 l4 : Option Value} {x : Int32} {y : Nat} {m : jmM} {Q : Option Value → jmM → Prop} : AW d 60 61 [l0, l1, l2, l3, l4] [.int x, .ref y] m Q ↔ AW d 60 62 [l0, l1, l2, l3, l4] [.int x, .ref y, .int x, .ref y] m Q := A_dup2_ia hB_X5_meltBack dX5_meltBack_61
theorem dX5_meltBack_62 : decode cX5_meltBack 62 = .ok (.laload, 1) := by decide +kernel
theorem tX5_meltBack_62 {d : Nat} {l0 l1 l2 l3 l4 : Option Value} {v2 v3 : Value} {i : Int32} {a : Nat} {m : jmM} {Q : Option Value → jmM → Prop} : AW d 60 62 [l0, l1, l2, l3, l4] [.int i, .ref a, v2, v3] m Q ↔ ((mS m a).1 = 21 ∧ jIx i (mS m a).2) ∧ AW d 60 63 [l0, l1, l2, l3, l4] [.long (mL m a (jx i)), v2, v3] m Q := A_laload hB_X5_meltBack dX5_meltBack_62
theorem dX5_meltBack_63 : decode cX5_meltBack 63 = .ok (.aload_n 0, 1) := by decide +kernel
theorem tX5_meltBack_63 {d : Nat} {l1 l2 l3 l4 : Option Value} {v0 v1 v2 : Value} {x : Nat} {m : jmM} {Q : Option Value → jmM → Prop} : AW d 60 63 [some (.ref x), l1, l2, l3, l4] [v0, v1, v2] m Q ↔ AW d 60 64 [some (.ref x), l1, l2, l3, l4] [.ref x, v0, v1, v2] m Q := A_aload_n hB_X5_meltBack dX5_meltBack_63 rfl
theorem dX5_meltBack_64 : decode cX5_meltBack 64 = .ok (.iload 4, 2) := by decide +kernel
theorem tX5_meltBack_64 {d : Nat} {l0 l1 l2 l3 : Option Value} {v0 v1 v2 v3 : Value} {x : Int32} {m : jmM} {Q : Option Value → jmM → Prop} : AW d 60 64 [l0, l1, l2, l3, some (.int x)] [v0, v1, v2, v3] m Q ↔ AW d 60 66 [l0, l1, l2, l3, some (.int x)] [.int x, v0, v1, v2, v3] m Q := A_iload hB_X5_meltBack dX5_meltBack_64 rfl
theorem dX5_meltBack_66 : decode cX5_meltBack 66 = .ok (.iload_n 3, 1) := by decide +kernel
theorem tX5_meltBack_66 {d : Nat} {l0 l1 l2 l4 : Option Value} {v0 v1 v2 v3 v4 : Value} {x : Int32} {m : jmM} {Q : Option Value → jmM → Prop} : AW d 60 66 [l0, l1, l2, some (.int x), l4] [v0, v1, v2, v3, v4] m Q ↔ AW d 60 67 [l0, l1, l2, some (.int x), l4] [.int x, v0, v1, v2, v3, v4] m Q := A_iload_n hB_X5_meltBack dX5_meltBack_66 rfl
theorem dX5_meltBack_67 : decode cX5_meltBack 67 = .ok (.invokevirtual 200, 3) := by decide +kernel
theorem tX5_meltBack_67 {d : Nat} {l0 l1 l2 l3 l4 : Option Value} {v3 v4 v5 : Value} {y0 y1 : Value} {a : Nat} {m : jmM} {Q : Option Value → jmM → Prop} : AW d 60 67 [l0, l1, l2, l3, l4] [y0, y1, .ref a, v3, v4, v5] m Q ↔ (mS m a).1 = 5 ∧ CC d 86 [.ref a, y1, y0] m (jK d 60 70 [l0, l1, l2, l3, l4] [v3, v4, v5] Q) := A_callV hB_X5_meltBack dX5_meltBack_67 hO_X5_meltBack fS_5_200 ⟨Nat.le_of_ble_eq_true rfl, Nat.le_of_ble_eq_true rfl⟩ rfl rfl rfl
theorem dX5_meltBack_70 : decode cX5_meltBack 70 = .ok (.ladd, 1) := by decide +kernel
theorem tX5_meltBack_70 {d : Nat} {l0 l1 l2 l3 l4 : Option Value} {v2 v3 : Value} {x y : Int64} {m : jmM} {Q : Option Value → jmM → Prop} : AW d 60 70 [l0, l1, l2, l3, l4] [.long y, .long x, v2, v3] m Q ↔ AW d 60 71 [l0, l1, l2, l3, l4] [.long (x + y), v2, v3] m Q := A_ladd hB_X5_meltBack dX5_meltBack_70
theorem dX5_meltBack_71 : decode cX5_meltBack 71 = .ok (.lastore, 1) := by decide +kernel
theorem tX5_meltBack_71 {d : Nat} {l0 l1 l2 l3 l4 : Option Value} {x : Int64} {i : Int32} {a : Nat} {m : jmM} {Q : Option Value → jmM → Prop} : AW d 60 71 [l0, l1, l2, l3, l4] [.long x, .int i, .ref a] m Q ↔ ((mS m a).1 = 21 ∧ jIx i (mS m a).2) ∧ AW d 60 72 [l0, l1, l2, l3, l4] [] (cL m a (jup (mL m a) (jx i) x)) Q := A_lastore hB_X5_meltBack dX5_meltBack_71
theorem dX5_meltBack_72 : decode cX5_meltBack 72 = .ok (.iinc 4 1, 3) := by decide +kernel
theorem tX5_meltBack_72 {d : Nat} {l0 l1 l2 l3 : Option Value} {x : Int32} {m : jmM} {Q : Option Value → jmM → Prop} : AW d 60 72 [l0, l1, l2, l3, some (.int x)] [] m Q ↔ AW d 60 75 [l0, l1, l2, jc1 l3, some (.int (x + 1))] [] m Q := A_iinc hB_X5_meltBack dX5_meltBack_72 rfl (Nat.le_of_ble_eq_true rfl) (v := 1) (by decide) rfl
theorem dX5_meltBack_75 : decode cX5_meltBack 75 = .ok (.goto (-27), 3) := by decide +kernel
theorem tX5_meltBack_75 {d : Nat} {l0 l1 l2 l3 l4 : Option Value} {m : jmM} {Q : Option Value → jmM → Prop} : AW d 60 75 [l0, l1, l2, l3, l4] [] m Q ↔ AW d 60 48 [l0, l1, l2, l3, l4] [] m Q := A_goto hB_X5_meltBack dX5_meltBack_75 (by decide)
theorem dX5_meltBack_78 : decode cX5_meltBack 78 = .ok (.iinc 3 1, 3) := by decide +kernel
theorem tX5_meltBack_78 {d : Nat} {l0 l1 l2 l4 : Option Value} {x : Int32} {m : jmM} {Q : Option Value → jmM → Prop} : AW d 60 78 [l0, l1, l2, some (.int x), l4] [] m Q ↔ AW d 60 81 [l0, l1, jc1 l2, some (.int (x + 1)), l4] [] m Q := A_iinc hB_X5_meltBack dX5_meltBack_78 rfl (Nat.le_of_ble_eq_true rfl) (v := 1) (by decide) rfl
theorem dX5_meltBack_81 : decode cX5_meltBack 81 = .ok (.goto (-72), 3) := by decide +kernel
theorem tX5_meltBack_81 {d : Nat} {l0 l1 l2 l3 l4 : Option Value} {m : jmM} {Q : Option Value → jmM → Prop} : AW d 60 81 [l0, l1, l2, l3, l4] [] m Q ↔ AW d 60 9 [l0, l1, l2, l3, l4] [] m Q := A_goto hB_X5_meltBack dX5_meltBack_81 (by decide)
theorem dX5_meltBack_84 : decode cX5_meltBack 84 = .ok (.aload_n 0, 1) := by decide +kernel
theorem tX5_meltBack_84 {d : Nat} {l1 l2 l3 l4 : Option Value} {x : Nat} {m : jmM} {Q : Option Value → jmM → Prop} : AW d 60 84 [some (.ref x), l1, l2, l3, l4] [] m Q ↔ AW d 60 85 [some (.ref x), l1, l2, l3, l4] [.ref x] m Q := A_aload_n hB_X5_meltBack dX5_meltBack_84 rfl
theorem dX5_meltBack_85 : decode cX5_meltBack 85 = .ok (.iload_n 1, 1) := by decide +kernel
theorem tX5_meltBack_85 {d : Nat} {l0 l2 l3 l4 : Option Value} {v0 : Value} {x : Int32} {m : jmM} {Q : Option Value → jmM → Prop} : AW d 60 85 [l0, some (.int x), l2, l3, l4] [v0] m Q ↔ AW d 60 86 [l0, some (.int x), l2, l3, l4] [.int x, v0] m Q := A_iload_n hB_X5_meltBack dX5_meltBack_85 rfl
theorem dX5_meltBack_86 : decode cX5_meltBack 86 = .ok (.putfield 51, 3) := by decide +kernel
theorem tX5_meltBack_86 {d : Nat} {l0 l1 l2 l3 l4 : Option Value} {x : Int32} {a : Nat} {m : jmM} {Q : Option Value → jmM → Prop} : AW d 60 86 [l0, l1, l2, l3, l4] [.int x, .ref a] m Q ↔ (mS m a).1 = 5 ∧ AW d 60 89 [l0, l1, l2, l3, l4] [] (cI m a (jup (mI m a) 11 x)) Q := A_putI hB_X5_meltBack dX5_meltBack_86 hO_X5_meltBack fF_5_51 rfl (fun h => Bool.noConfusion h)
theorem dX5_meltBack_89 : decode cX5_meltBack 89 = .ok (.aload_n 0, 1) := by decide +kernel
theorem tX5_meltBack_89 {d : Nat} {l1 l2 l3 l4 : Option Value} {x : Nat} {m : jmM} {Q : Option Value → jmM → Prop} : AW d 60 89 [some (.ref x), l1, l2, l3, l4] [] m Q ↔ AW d 60 90 [some (.ref x), l1, l2, l3, l4] [.ref x] m Q := A_aload_n hB_X5_meltBack dX5_meltBack_89 rfl
theorem dX5_meltBack_90 : decode cX5_meltBack 90 = .ok (.iload_n 1, 1) := by decide +kernel
theorem tX5_meltBack_90 {d : Nat} {l0 l2 l3 l4 : Option Value} {v0 : Value} {x : Int32} {m : jmM} {Q : Option Value → jmM → Prop} : AW d 60 90 [l0, some (.int x), l2, l3, l4] [v0] m Q ↔ AW d 60 91 [l0, some (.int x), l2, l3, l4] [.int x, v0] m Q := A_iload_n hB_X5_meltBack dX5_meltBack_90 rfl
theorem dX5_meltBack_91 : decode cX5_meltBack 91 = .ok (.ifCond .ne 13, 3) := by decide +kernel
theorem tX5_meltBack_91 {d : Nat} {l0 l1 l2 l3 l4 : Option Value} {v1 : Value} {x : Int32} {m : jmM} {Q : Option Value → jmM → Prop} : AW d 60 91 [l0, l1, l2, l3, l4] [.int x, v1] m Q ↔ if x = 0 then AW d 60 94 [l0, l1, l2, l3, l4] [v1] m Q else AW d 60 104 [l0, l1, l2, l3, l4] [v1] m Q := A_if_ne hB_X5_meltBack dX5_meltBack_91 (by decide)
theorem dX5_meltBack_94 : decode cX5_meltBack 94 = .ok (.aload_n 0, 1) := by decide +kernel
theorem tX5_meltBack_94 {d : Nat} {l1 l2 l3 l4 : Option Value} {v0 : Value} {x : Nat} {m : jmM} {Q : Option Value → jmM → Prop} : AW d 60 94 [some (.ref x), l1, l2, l3, l4] [v0] m Q ↔ AW d 60 95 [some (.ref x), l1, l2, l3, l4] [.ref x, v0] m Q := A_aload_n hB_X5_meltBack dX5_meltBack_94 rfl
theorem dX5_meltBack_95 : decode cX5_meltBack 95 = .ok (.getfield 12, 3) := by decide +kernel
theorem tX5_meltBack_95 {d : Nat} {l0 l1 l2 l3 l4 : Option Value} {v1 : Value} {a : Nat} {m : jmM} {Q : Option Value → jmM → Prop} : AW d 60 95 [l0, l1, l2, l3, l4] [.ref a, v1] m Q ↔ (mS m a).1 = 5 ∧ AW d 60 98 [l0, l1, l2, l3, l4] [va_rf (mR m a 0), v1] m Q := A_getfield (f := fun m a => va_rf (mR m a 0)) hB_X5_meltBack dX5_meltBack_95 hO_X5_meltBack fF_5_12 rfl
theorem dX5_meltBack_98 : decode cX5_meltBack 98 = .ok (.invokevirtual 82, 3) := by decide +kernel
theorem tX5_meltBack_98 {d : Nat} {l0 l1 l2 l3 l4 : Option Value} {v1 : Value} {a : Nat} {m : jmM} {Q : Option Value → jmM → Prop} : AW d 60 98 [l0, l1, l2, l3, l4] [.ref a, v1] m Q ↔ (mS m a).1 = 8 ∧ CC d 125 [.ref a] m (jK d 60 101 [l0, l1, l2, l3, l4] [v1] Q) := A_callV hB_X5_meltBack dX5_meltBack_98 hO_X5_meltBack fS_5_82 ⟨Nat.le_of_ble_eq_true rfl, Nat.le_of_ble_eq_true rfl⟩ rfl rfl rfl
theorem dX5_meltBack_101 : decode cX5_meltBack 101 = .ok (.goto 10, 3) := by decide +kernel
theorem tX5_meltBack_101 {d : Nat} {l0 l1 l2 l3 l4 : Option Value} {v0 v1 : Value} {m : jmM} {Q : Option Value → jmM → Prop} : AW d 60 101 [l0, l1, l2, l3, l4] [v0, v1] m Q ↔ AW d 60 111 [l0, l1, l2, l3, l4] [v0, v1] m Q := A_goto hB_X5_meltBack dX5_meltBack_101 (by decide)
theorem dX5_meltBack_104 : decode cX5_meltBack 104 = .ok (.aload_n 0, 1) := by decide +kernel
theorem tX5_meltBack_104 {d : Nat} {l1 l2 l3 l4 : Option Value} {v0 : Value} {x : Nat} {m : jmM} {Q : Option Value → jmM → Prop} : AW d 60 104 [some (.ref x), l1, l2, l3, l4] [v0] m Q ↔ AW d 60 105 [some (.ref x), l1, l2, l3, l4] [.ref x, v0] m Q := A_aload_n hB_X5_meltBack dX5_meltBack_104 rfl
theorem dX5_meltBack_105 : decode cX5_meltBack 105 = .ok (.iload_n 1, 1) := by decide +kernel
theorem tX5_meltBack_105 {d : Nat} {l0 l2 l3 l4 : Option Value} {v0 v1 : Value} {x : Int32} {m : jmM} {Q : Option Value → jmM → Prop} : AW d 60 105 [l0, some (.int x), l2, l3, l4] [v0, v1] m Q ↔ AW d 60 106 [l0, some (.int x), l2, l3, l4] [.int x, v0, v1] m Q := A_iload_n hB_X5_meltBack dX5_meltBack_105 rfl
theorem dX5_meltBack_106 : decode cX5_meltBack 106 = .ok (.iconst 1, 1) := by decide +kernel
theorem tX5_meltBack_106 {d : Nat} {l0 l1 l2 l3 l4 : Option Value} {v0 v1 v2 : Value} {m : jmM} {Q : Option Value → jmM → Prop} : AW d 60 106 [l0, l1, l2, l3, l4] [v0, v1, v2] m Q ↔ AW d 60 107 [l0, l1, l2, l3, l4] [.int 1, v0, v1, v2] m Q := A_iconst hB_X5_meltBack dX5_meltBack_106 (by decide)
theorem dX5_meltBack_107 : decode cX5_meltBack 107 = .ok (.isub, 1) := by decide +kernel
theorem tX5_meltBack_107 {d : Nat} {l0 l1 l2 l3 l4 : Option Value} {v2 v3 : Value} {x y : Int32} {m : jmM} {Q : Option Value → jmM → Prop} : AW d 60 107 [l0, l1, l2, l3, l4] [.int y, .int x, v2, v3] m Q ↔ AW d 60 108 [l0, l1, l2, l3, l4] [.int (x - y), v2, v3] m Q := A_isub hB_X5_meltBack dX5_meltBack_107
theorem dX5_meltBack_108 : decode cX5_meltBack 108 = .ok (.invokevirtual 204, 3) := by decide +kernel
theorem tX5_meltBack_108 {d : Nat} {l0 l1 l2 l3 l4 : Option Value} {v2 : Value} {y0 : Value} {a : Nat} {m : jmM} {Q : Option Value → jmM → Prop} : AW d 60 108 [l0, l1, l2, l3, l4] [y0, .ref a, v2] m Q ↔ (mS m a).1 = 5 ∧ CC d 81 [.ref a, y0] m (jK d 60 111 [l0, l1, l2, l3, l4] [v2] Q) := A_callV hB_X5_meltBack dX5_meltBack_108 hO_X5_meltBack fS_5_204 ⟨Nat.le_of_ble_eq_true rfl, Nat.le_of_ble_eq_true rfl⟩ rfl rfl rfl
theorem dX5_meltBack_111 : decode cX5_meltBack 111 = .ok (.putfield 36, 3) := by decide +kernel
theorem tX5_meltBack_111 {d : Nat} {l0 l1 l2 l3 l4 : Option Value} {x : Int32} {a : Nat} {m : jmM} {Q : Option Value → jmM → Prop} : AW d 60 111 [l0, l1, l2, l3, l4] [.int x, .ref a] m Q ↔ (mS m a).1 = 5 ∧ AW d 60 114 [l0, l1, l2, l3, l4] [] (cI m a (jup (mI m a) 6 x)) Q := A_putI hB_X5_meltBack dX5_meltBack_111 hO_X5_meltBack fF_5_36 rfl (fun h => Bool.noConfusion h)
theorem dX5_meltBack_114 : decode cX5_meltBack 114 = .ok (.aload_n 0, 1) := by decide +kernel
theorem tX5_meltBack_114 {d : Nat} {l1 l2 l3 l4 : Option Value} {x : Nat} {m : jmM} {Q : Option Value → jmM → Prop} : AW d 60 114 [some (.ref x), l1, l2, l3, l4] [] m Q ↔ AW d 60 115 [some (.ref x), l1, l2, l3, l4] [.ref x] m Q := A_aload_n hB_X5_meltBack dX5_meltBack_114 rfl
theorem dX5_meltBack_115 : decode cX5_meltBack 115 = .ok (.iload_n 1, 1) := by decide +kernel
theorem tX5_meltBack_115 {d : Nat} {l0 l2 l3 l4 : Option Value} {v0 : Value} {x : Int32} {m : jmM} {Q : Option Value → jmM → Prop} : AW d 60 115 [l0, some (.int x), l2, l3, l4] [v0] m Q ↔ AW d 60 116 [l0, some (.int x), l2, l3, l4] [.int x, v0] m Q := A_iload_n hB_X5_meltBack dX5_meltBack_115 rfl
theorem dX5_meltBack_116 : decode cX5_meltBack 116 = .ok (.ifCond .ne 13, 3) := by decide +kernel
theorem tX5_meltBack_116 {d : Nat} {l0 l1 l2 l3 l4 : Option Value} {v1 : Value} {x : Int32} {m : jmM} {Q : Option Value → jmM → Prop} : AW d 60 116 [l0, l1, l2, l3, l4] [.int x, v1] m Q ↔ if x = 0 then AW d 60 119 [l0, l1, l2, l3, l4] [v1] m Q else AW d 60 129 [l0, l1, l2, l3, l4] [v1] m Q := A_if_ne hB_X5_meltBack dX5_meltBack_116 (by decide)
theorem dX5_meltBack_119 : decode cX5_meltBack 119 = .ok (.aload_n 0, 1) := by decide +kernel
theorem tX5_meltBack_119 {d : Nat} {l1 l2 l3 l4 : Option Value} {v0 : Value} {x : Nat} {m : jmM} {Q : Option Value → jmM → Prop} : AW d 60 119 [some (.ref x), l1, l2, l3, l4] [v0] m Q ↔ AW d 60 120 [some (.ref x), l1, l2, l3, l4] [.ref x, v0] m Q := A_aload_n hB_X5_meltBack dX5_meltBack_119 rfl
theorem dX5_meltBack_120 : decode cX5_meltBack 120 = .ok (.getfield 12, 3) := by decide +kernel
theorem tX5_meltBack_120 {d : Nat} {l0 l1 l2 l3 l4 : Option Value} {v1 : Value} {a : Nat} {m : jmM} {Q : Option Value → jmM → Prop} : AW d 60 120 [l0, l1, l2, l3, l4] [.ref a, v1] m Q ↔ (mS m a).1 = 5 ∧ AW d 60 123 [l0, l1, l2, l3, l4] [va_rf (mR m a 0), v1] m Q := A_getfield (f := fun m a => va_rf (mR m a 0)) hB_X5_meltBack dX5_meltBack_120 hO_X5_meltBack fF_5_12 rfl
theorem dX5_meltBack_123 : decode cX5_meltBack 123 = .ok (.invokevirtual 84, 3) := by decide +kernel
theorem tX5_meltBack_123 {d : Nat} {l0 l1 l2 l3 l4 : Option Value} {v1 : Value} {a : Nat} {m : jmM} {Q : Option Value → jmM → Prop} : AW d 60 123 [l0, l1, l2, l3, l4] [.ref a, v1] m Q ↔ (mS m a).1 = 8 ∧ CC d 124 [.ref a] m (jK d 60 126 [l0, l1, l2, l3, l4] [v1] Q) := A_callV hB_X5_meltBack dX5_meltBack_123 hO_X5_meltBack fS_5_84 ⟨Nat.le_of_ble_eq_true rfl, Nat.le_of_ble_eq_true rfl⟩ rfl rfl rfl
theorem dX5_meltBack_126 : decode cX5_meltBack 126 = .ok (.goto 10, 3) := by decide +kernel
theorem tX5_meltBack_126 {d : Nat} {l0 l1 l2 l3 l4 : Option Value} {v0 v1 : Value} {m : jmM} {Q : Option Value → jmM → Prop} : AW d 60 126 [l0, l1, l2, l3, l4] [v0, v1] m Q ↔ AW d 60 136 [l0, l1, l2, l3, l4] [v0, v1] m Q := A_goto hB_X5_meltBack dX5_meltBack_126 (by decide)
theorem dX5_meltBack_129 : decode cX5_meltBack 129 = .ok (.aload_n 0, 1) := by decide +kernel
theorem tX5_meltBack_129 {d : Nat} {l1 l2 l3 l4 : Option Value} {v0 : Value} {x : Nat} {m : jmM} {Q : Option Value → jmM → Prop} : AW d 60 129 [some (.ref x), l1, l2, l3, l4] [v0] m Q ↔ AW d 60 130 [some (.ref x), l1, l2, l3, l4] [.ref x, v0] m Q := A_aload_n hB_X5_meltBack dX5_meltBack_129 rfl
theorem dX5_meltBack_130 : decode cX5_meltBack 130 = .ok (.iload_n 1, 1) := by decide +kernel
theorem tX5_meltBack_130 {d : Nat} {l0 l2 l3 l4 : Option Value} {v0 v1 : Value} {x : Int32} {m : jmM} {Q : Option Value → jmM → Prop} : AW d 60 130 [l0, some (.int x), l2, l3, l4] [v0, v1] m Q ↔ AW d 60 131 [l0, some (.int x), l2, l3, l4] [.int x, v0, v1] m Q := A_iload_n hB_X5_meltBack dX5_meltBack_130 rfl
theorem dX5_meltBack_131 : decode cX5_meltBack 131 = .ok (.iconst 1, 1) := by decide +kernel
theorem tX5_meltBack_131 {d : Nat} {l0 l1 l2 l3 l4 : Option Value} {v0 v1 v2 : Value} {m : jmM} {Q : Option Value → jmM → Prop} : AW d 60 131 [l0, l1, l2, l3, l4] [v0, v1, v2] m Q ↔ AW d 60 132 [l0, l1, l2, l3, l4] [.int 1, v0, v1, v2] m Q := A_iconst hB_X5_meltBack dX5_meltBack_131 (by decide)
theorem dX5_meltBack_132 : decode cX5_meltBack 132 = .ok (.isub, 1) := by decide +kernel
theorem tX5_meltBack_132 {d : Nat} {l0 l1 l2 l3 l4 : Option Value} {v2 v3 : Value} {x y : Int32} {m : jmM} {Q : Option Value → jmM → Prop} : AW d 60 132 [l0, l1, l2, l3, l4] [.int y, .int x, v2, v3] m Q ↔ AW d 60 133 [l0, l1, l2, l3, l4] [.int (x - y), v2, v3] m Q := A_isub hB_X5_meltBack dX5_meltBack_132
theorem dX5_meltBack_133 : decode cX5_meltBack 133 = .ok (.invokevirtual 207, 3) := by decide +kernel
theorem tX5_meltBack_133 {d : Nat} {l0 l1 l2 l3 l4 : Option Value} {v2 : Value} {y0 : Value} {a : Nat} {m : jmM} {Q : Option Value → jmM → Prop} : AW d 60 133 [l0, l1, l2, l3, l4] [y0, .ref a, v2] m Q ↔ (mS m a).1 = 5 ∧ CC d 82 [.ref a, y0] m (jK d 60 136 [l0, l1, l2, l3, l4] [v2] Q) := A_callV hB_X5_meltBack dX5_meltBack_133 hO_X5_meltBack fS_5_207 ⟨Nat.le_of_ble_eq_true rfl, Nat.le_of_ble_eq_true rfl⟩ rfl rfl rfl
theorem dX5_meltBack_136 : decode cX5_meltBack 136 = .ok (.putfield 39, 3) := by decide +kernel
theorem tX5_meltBack_136 {d : Nat} {l0 l1 l2 l3 l4 : Option Value} {x : Int32} {a : Nat} {m : jmM} {Q : Option Value → jmM → Prop} : AW d 60 136 [l0, l1, l2, l3, l4] [.int x, .ref a] m Q ↔ (mS m a).1 = 5 ∧ AW d 60 139 [l0, l1, l2, l3, l4] [] (cI m a (jup (mI m a) 7 x)) Q := A_putI hB_X5_meltBack dX5_meltBack_136 hO_X5_meltBack fF_5_39 rfl (fun h => Bool.noConfusion h)
theorem dX5_meltBack_139 : decode cX5_meltBack 139 = .ok (.aload_n 0, 1) := by decide +kernel
theorem tX5_meltBack_139 {d : Nat} {l1 l2 l3 l4 : Option Value} {x : Nat} {m : jmM} {Q : Option Value → jmM → Prop} : AW d 60 139 [some (.ref x), l1, l2, l3, l4] [] m Q ↔ AW d 60 140 [some (.ref x), l1, l2, l3, l4] [.ref x] m Q := A_aload_n hB_X5_meltBack dX5_meltBack_139 rfl
theorem dX5_meltBack_140 : decode cX5_meltBack 140 = .ok (.iload_n 1, 1) := by decide +kernel
theorem tX5_meltBack_140 {d : Nat} {l0 l2 l3 l4 : Option Value} {v0 : Value} {x : Int32} {m : jmM} {Q : Option Value → jmM → Prop} : AW d 60 140 [l0, some (.int x), l2, l3, l4] [v0] m Q ↔ AW d 60 141 [l0, some (.int x), l2, l3, l4] [.int x, v0] m Q := A_iload_n hB_X5_meltBack dX5_meltBack_140 rfl
theorem dX5_meltBack_141 : decode cX5_meltBack 141 = .ok (.ifCond .ne 7, 3) := by decide +kernel
theorem tX5_meltBack_141 {d : Nat} {l0 l1 l2 l3 l4 : Option Value} {v1 : Value} {x : Int32} {m : jmM} {Q : Option Value → jmM → Prop} : AW d 60 141 [l0, l1, l2, l3, l4] [.int x, v1] m Q ↔ if x = 0 then AW d 60 144 [l0, l1, l2, l3, l4] [v1] m Q else AW d 60 148 [l0, l1, l2, l3, l4] [v1] m Q := A_if_ne hB_X5_meltBack dX5_meltBack_141 (by decide)
theorem dX5_meltBack_144 : decode cX5_meltBack 144 = .ok (.iconst 0, 1) := by decide +kernel
theorem tX5_meltBack_144 {d : Nat} {l0 l1 l2 l3 l4 : Option Value} {v0 : Value} {m : jmM} {Q : Option Value → jmM → Prop} : AW d 60 144 [l0, l1, l2, l3, l4] [v0] m Q ↔ AW d 60 145 [l0, l1, l2, l3, l4] [.int 0, v0] m Q := A_iconst hB_X5_meltBack dX5_meltBack_144 (by decide)
theorem dX5_meltBack_145 : decode cX5_meltBack 145 = .ok (.goto 10, 3) := by decide +kernel
theorem tX5_meltBack_145 {d : Nat} {l0 l1 l2 l3 l4 : Option Value} {v0 v1 : Value} {m : jmM} {Q : Option Value → jmM → Prop} : AW d 60 145 [l0, l1, l2, l3, l4] [v0, v1] m Q ↔ AW d 60 155 [l0, l1, l2, l3, l4] [v0, v1] m Q := A_goto hB_X5_meltBack dX5_meltBack_145 (by decide)
theorem dX5_meltBack_148 : decode cX5_meltBack 148 = .ok (.aload_n 0, 1) := by decide +kernel
theorem tX5_meltBack_148 {d : Nat} {l1 l2 l3 l4 : Option Value} {v0 : Value} {x : Nat} {m : jmM} {Q : Option Value → jmM → Prop} : AW d 60 148 [some (.ref x), l1, l2, l3, l4] [v0] m Q ↔ AW d 60 149 [some (.ref x), l1, l2, l3, l4] [.ref x, v0] m Q := A_aload_n hB_X5_meltBack dX5_meltBack_148 rfl
theorem dX5_meltBack_149 : decode cX5_meltBack 149 = .ok (.iload_n 1, 1) := by decide +kernel
theorem tX5_meltBack_149 {d : Nat} {l0 l2 l3 l4 : Option Value} {v0 v1 : Value} {x : Int32} {m : jmM} {Q : Option Value → jmM → Prop} : AW d 60 149 [l0, some (.int x), l2, l3, l4] [v0, v1] m Q ↔ AW d 60 150 [l0, some (.int x), l2, l3, l4] [.int x, v0, v1] m Q := A_iload_n hB_X5_meltBack dX5_meltBack_149 rfl
theorem dX5_meltBack_150 : decode cX5_meltBack 150 = .ok (.iconst 1, 1) := by decide +kernel
theorem tX5_meltBack_150 {d : Nat} {l0 l1 l2 l3 l4 : Option Value} {v0 v1 v2 : Value} {m : jmM} {Q : Option Value → jmM → Prop} : AW d 60 150 [l0, l1, l2, l3, l4] [v0, v1, v2] m Q ↔ AW d 60 151 [l0, l1, l2, l3, l4] [.int 1, v0, v1, v2] m Q := A_iconst hB_X5_meltBack dX5_meltBack_150 (by decide)
theorem dX5_meltBack_151 : decode cX5_meltBack 151 = .ok (.isub, 1) := by decide +kernel
theorem tX5_meltBack_151 {d : Nat} {l0 l1 l2 l3 l4 : Option Value} {v2 v3 : Value} {x y : Int32} {m : jmM} {Q : Option Value → jmM → Prop} : AW d 60 151 [l0, l1, l2, l3, l4] [.int y, .int x, v2, v3] m Q ↔ AW d 60 152 [l0, l1, l2, l3, l4] [.int (x - y), v2, v3] m Q := A_isub hB_X5_meltBack dX5_meltBack_151
theorem dX5_meltBack_152 : decode cX5_meltBack 152 = .ok (.invokevirtual 197, 3) := by decide +kernel
theorem tX5_meltBack_152 {d : Nat} {l0 l1 l2 l3 l4 : Option Value} {v2 : Value} {y0 : Value} {a : Nat} {m : jmM} {Q : Option Value → jmM → Prop} : AW d 60 152 [l0, l1, l2, l3, l4] [y0, .ref a, v2] m Q ↔ (mS m a).1 = 5 ∧ CC d 83 [.ref a, y0] m (jK d 60 155 [l0, l1, l2, l3, l4] [v2] Q) := A_callV hB_X5_meltBack dX5_meltBack_152 hO_X5_meltBack fS_5_197 ⟨Nat.le_of_ble_eq_true rfl, Nat.le_of_ble_eq_true rfl⟩ rfl rfl rfl
theorem dX5_meltBack_155 : decode cX5_meltBack 155 = .ok (.putfield 42, 3) := by decide +kernel
theorem tX5_meltBack_155 {d : Nat} {l0 l1 l2 l3 l4 : Option Value} {x : Int32} {a : Nat} {m : jmM} {Q : Option Value → jmM → Prop} : AW d 60 155 [l0, l1, l2, l3, l4] [.int x, .ref a] m Q ↔ (mS m a).1 = 5 ∧ AW d 60 158 [l0, l1, l2, l3, l4] [] (cI m a (jup (mI m a) 8 x)) Q := A_putI hB_X5_meltBack dX5_meltBack_155 hO_X5_meltBack fF_5_42 rfl (fun h => Bool.noConfusion h)
theorem dX5_meltBack_158 : decode cX5_meltBack 158 = .ok (.aload_n 0, 1) := by decide +kernel
theorem tX5_meltBack_158 {d : Nat} {l1 l2 l3 l4 : Option Value} {x : Nat} {m : jmM} {Q : Option Value → jmM → Prop} : AW d 60 158 [some (.ref x), l1, l2, l3, l4] [] m Q ↔ AW d 60 159 [some (.ref x), l1, l2, l3, l4] [.ref x] m Q := A_aload_n hB_X5_meltBack dX5_meltBack_158 rfl
theorem dX5_meltBack_159 : decode cX5_meltBack 159 = .ok (.aload_n 0, 1) := by decide +kernel
theorem tX5_meltBack_159 {d : Nat} {l1 l2 l3 l4 : Option Value} {v0 : Value} {x : Nat} {m : jmM} {Q : Option Value → jmM → Prop} : AW d 60 159 [some (.ref x), l1, l2, l3, l4] [v0] m Q ↔ AW d 60 160 [some (.ref x), l1, l2, l3, l4] [.ref x, v0] m Q := A_aload_n hB_X5_meltBack dX5_meltBack_159 rfl
theorem dX5_meltBack_160 : decode cX5_meltBack 160 = .ok (.getfield 48, 3) := by decide +kernel
theorem tX5_meltBack_160 {d : Nat} {l0 l1 l2 l3 l4 : Option Value} {v1 : Value} {a : Nat} {m : jmM} {Q : Option Value → jmM → Prop} : AW d 60 160 [l0, l1, l2, l3, l4] [.ref a, v1] m Q ↔ (mS m a).1 = 5 ∧ AW d 60 163 [l0, l1, l2, l3, l4] [.int (mI m a 10), v1] m Q := A_getfield (f := fun m a => .int (mI m a 10)) hB_X5_meltBack dX5_meltBack_160 hO_X5_meltBack fF_5_48 rfl
theorem dX5_meltBack_163 : decode cX5_meltBack 163 = .ok (.aload_n 0, 1) := by decide +kernel
theorem tX5_meltBack_163 {d : Nat} {l1 l2 l3 l4 : Option Value} {v0 v1 : Value} {x : Nat} {m : jmM} {Q : Option Value → jmM → Prop} : AW d 60 163 [some (.ref x), l1, l2, l3, l4] [v0, v1] m Q ↔ AW d 60 164 [some (.ref x), l1, l2, l3, l4] [.ref x, v0, v1] m Q := A_aload_n hB_X5_meltBack dX5_meltBack_163 rfl
theorem dX5_meltBack_164 : decode cX5_meltBack 164 = .ok (.getfield 12, 3) := by decide +kernel
theorem tX5_meltBack_164 {d : Nat} {l0 l1 l2 l3 l4 : Option Value} {v1 v2 : Value} {a : Nat} {m : jmM} {Q : Option Value → jmM → Prop} : AW d 60 164 [l0, l1, l2, l3, l4] [.ref a, v1, v2] m Q ↔ (mS m a).1 = 5 ∧ AW d 60 167 [l0, l1, l2, l3, l4] [va_rf (mR m a 0), v1, v2] m Q := A_getfield (f := fun m a => va_rf (mR m a 0)) hB_X5_meltBack dX5_meltBack_164 hO_X5_meltBack fF_5_12 rfl
theorem dX5_meltBack_167 : decode cX5_meltBack 167 = .ok (.invokevirtual 191, 3) := by decide +kernel
theorem tX5_meltBack_167 {d : Nat} {l0 l1 l2 l3 l4 : Option Value} {v1 v2 : Value} {a : Nat} {m : jmM} {Q : Option Value → jmM → Prop} : AW d 60 167 [l0, l1, l2, l3, l4] [.ref a, v1, v2] m Q ↔ (mS m a).1 = 8 ∧ CC d 126 [.ref a] m (jK d 60 170 [l0, l1, l2, l3, l4] [v1, v2] Q) := A_callV hB_X5_meltBack dX5_meltBack_167 hO_X5_meltBack fS_5_191 ⟨Nat.le_of_ble_eq_true rfl, Nat.le_of_ble_eq_true rfl⟩ rfl rfl rfl
theorem dX5_meltBack_170 : decode cX5_meltBack 170 = .ok (.if_icmp .lt 7, 3) := by decide +kernel
theorem tX5_meltBack_170 {d : Nat} {l0 l1 l2 l3 l4 : Option Value} {v2 : Value} {x y : Int32} {m : jmM} {Q : Option Value → jmM → Prop} : AW d 60 170 [l0, l1, l2, l3, l4] [.int y, .int x, v2] m Q ↔ if x < y then AW d 60 177 [l0, l1, l2, l3, l4] [v2] m Q else AW d 60 173 [l0, l1, l2, l3, l4] [v2] m Q := A_icmp_lt hB_X5_meltBack dX5_meltBack_170 (by decide)
theorem dX5_meltBack_173 : decode cX5_meltBack 173 = .ok (.iconst 5, 1) := by decide +kernel
theorem tX5_meltBack_173 {d : Nat} {l0 l1 l2 l3 l4 : Option Value} {v0 : Value} {m : jmM} {Q : Option Value → jmM → Prop} : AW d 60 173 [l0, l1, l2, l3, l4] [v0] m Q ↔ AW d 60 174 [l0, l1, l2, l3, l4] [.int 5, v0] m Q := A_iconst hB_X5_meltBack dX5_meltBack_173 (by decide)
theorem dX5_meltBack_174 : decode cX5_meltBack 174 = .ok (.goto 4, 3) := by decide +kernel
theorem tX5_meltBack_174 {d : Nat} {l0 l1 l2 l3 l4 : Option Value} {v0 v1 : Value} {m : jmM} {Q : Option Value → jmM → Prop} : AW d 60 174 [l0, l1, l2, l3, l4] [v0, v1] m Q ↔ AW d 60 178 [l0, l1, l2, l3, l4] [v0, v1] m Q := A_goto hB_X5_meltBack dX5_meltBack_174 (by decide)
theorem dX5_meltBack_177 : decode cX5_meltBack 177 = .ok (.iconst 1, 1) := by decide +kernel
theorem tX5_meltBack_177 {d : Nat} {l0 l1 l2 l3 l4 : Option Value} {v0 : Value} {m : jmM} {Q : Option Value → jmM → Prop} : AW d 60 177 [l0, l1, l2, l3, l4] [v0] m Q ↔ AW d 60 178 [l0, l1, l2, l3, l4] [.int 1, v0] m Q := A_iconst hB_X5_meltBack dX5_meltBack_177 (by decide)
theorem dX5_meltBack_178 : decode cX5_meltBack 178 = .ok (.putfield 25, 3) := by decide +kernel
theorem tX5_meltBack_178 {d : Nat} {l0 l1 l2 l3 l4 : Option Value} {x : Int32} {a : Nat} {m : jmM} {Q : Option Value → jmM → Prop} : AW d 60 178 [l0, l1, l2, l3, l4] [.int x, .ref a] m Q ↔ (mS m a).1 = 5 ∧ AW d 60 181 [l0, l1, l2, l3, l4] [] (cI m a (jup (mI m a) 3 x)) Q := A_putI hB_X5_meltBack dX5_meltBack_178 hO_X5_meltBack fF_5_25 rfl (fun h => Bool.noConfusion h)
theorem dX5_meltBack_181 : decode cX5_meltBack 181 = .ok (.iload_n 2, 1) := by decide +kernel
theorem tX5_meltBack_181 {d : Nat} {l0 l1 l3 l4 : Option Value} {x : Int32} {m : jmM} {Q : Option Value → jmM → Prop} : AW d 60 181 [l0, l1, some (.int x), l3, l4] [] m Q ↔ AW d 60 182 [l0, l1, some (.int x), l3, l4] [.int x] m Q := A_iload_n hB_X5_meltBack dX5_meltBack_181 rfl
theorem dX5_meltBack_182 : decode cX5_meltBack 182 = .ok (.ireturn, 1) := by decide +kernel
theorem tX5_meltBack_182 {d : Nat} {l0 l1 l2 l3 l4 : Option Value} {x : Int32} {m : jmM} {Q : Option Value → jmM → Prop} : AW d 60 182 [l0, l1, l2, l3, l4] [.int x] m Q ↔ Q (some (.int x)) m := A_ireturn hB_X5_meltBack dX5_meltBack_182 hR_X5_meltBack
theorem hB_X5_tellFault : jB 61 = cX5_tellFault := rfl
theorem hO_X5_tellFault : jO 61 = 5 := rfl
theorem hR_X5_tellFault : jRt 61 = (some .boolean) := rfl
theorem nX5_tellFault (d : Nat) (x0 : Nat) (x1 : Int32) (m : jmM) (Q : Option Value → jmM → Prop) : CC (d + 1) 61 [.ref x0, .int x1] m Q ↔ AW d 61 0 [some (.ref x0), some (.int x1)] [] m Q := CC_body (Nat.le_of_ble_eq_true rfl)
theorem dX5_tellFault_0 : decode cX5_tellFault 0 = .ok (.aload_n 0, 1) := by decide +kernel
theorem tX5_tellFault_0 {d : Nat} {l1 : Option Value} {x : Nat} {m : jmM} {Q : Option Value → jmM → Prop} : AW d 61 0 [some (.ref x), l1] [] m Q ↔ AW d 61 1 [some (.ref x), l1] [.ref x] m Q := A_aload_n hB_X5_tellFault dX5_tellFault_0 rfl
theorem dX5_tellFault_1 : decode cX5_tellFault 1 = .ok (.iload_n 1, 1) := by decide +kernel
theorem tX5_tellFault_1 {d : Nat} {l0 : Option Value} {v0 : Value} {x : Int32} {m : jmM} {Q : Option Value → jmM → Prop} : AW d 61 1 [l0, some (.int x)] [v0] m Q ↔ AW d 61 2 [l0, some (.int x)] [.int x, v0] m Q := A_iload_n hB_X5_tellFault dX5_tellFault_1 rfl
theorem dX5_tellFault_2 : decode cX5_tellFault 2 = .ok (.invokevirtual 161, 3) := by decide +kernel
theorem tX5_tellFault_2 {d : Nat} {l0 l1 : Option Value} {y0 : Value} {a : Nat} {m : jmM} {Q : Option Value → jmM → Prop} : AW d 61 2 [l0, l1] [y0, .ref a] m Q ↔ (mS m a).1 = 5 ∧ CC d 72 [.ref a, y0] m (jK d 61 5 [l0, l1] [] Q) := A_callV hB_X5_tellFault dX5_tellFault_2 hO_X5_tellFault fS_5_161 ⟨Nat.le_of_ble_eq_true rfl, Nat.le_of_ble_eq_true rfl⟩ rfl rfl rfl
theorem dX5_tellFault_5 : decode cX5_tellFault 5 = .ok (.ifCond .eq 12, 3) := by decide +kernel
theorem tX5_tellFault_5 {d : Nat} {l0 l1 : Option Value} {x : Int32} {m : jmM} {Q : Option Value → jmM → Prop} : AW d 61 5 [l0, l1] [.int x] m Q ↔ if x = 0 then AW d 61 17 [l0, l1] [] m Q else AW d 61 8 [l0, l1] [] m Q := A_if_eq hB_X5_tellFault dX5_tellFault_5 (by decide)
theorem dX5_tellFault_8 : decode cX5_tellFault 8 = .ok (.aload_n 0, 1) := by decide +kernel
theorem tX5_tellFault_8 {d : Nat} {l1 : Option Value} {x : Nat} {m : jmM} {Q : Option Value → jmM → Prop} : AW d 61 8 [some (.ref x), l1] [] m Q ↔ AW d 61 9 [some (.ref x), l1] [.ref x] m Q := A_aload_n hB_X5_tellFault dX5_tellFault_8 rfl
theorem dX5_tellFault_9 : decode cX5_tellFault 9 = .ok (.getfield 67, 3) := by decide +kernel
theorem tX5_tellFault_9 {d : Nat} {l0 l1 : Option Value} {a : Nat} {m : jmM} {Q : Option Value → jmM → Prop} : AW d 61 9 [l0, l1] [.ref a] m Q ↔ (mS m a).1 = 5 ∧ AW d 61 12 [l0, l1] [va_rf (mR m a 16)] m Q := A_getfield (f := fun m a => va_rf (mR m a 16)) hB_X5_tellFault dX5_tellFault_9 hO_X5_tellFault fF_5_67 rfl
theorem dX5_tellFault_12 : decode cX5_tellFault 12 = .ok (.iload_n 1, 1) := by decide +kernel
theorem tX5_tellFault_12 {d : Nat} {l0 : Option Value} {v0 : Value} {x : Int32} {m : jmM} {Q : Option Value → jmM → Prop} : AW d 61 12 [l0, some (.int x)] [v0] m Q ↔ AW d 61 13 [l0, some (.int x)] [.int x, v0] m Q := A_iload_n hB_X5_tellFault dX5_tellFault_12 rfl
theorem dX5_tellFault_13 : decode cX5_tellFault 13 = .ok (.baload, 1) := by decide +kernel
theorem tX5_tellFault_13 {d : Nat} {l0 l1 : Option Value} {i : Int32} {a : Nat} {m : jmM} {Q : Option Value → jmM → Prop} : AW d 61 13 [l0, l1] [.int i, .ref a] m Q ↔ (((mS m a).1 = 22 ∨ (mS m a).1 = 23) ∧ jIx i (mS m a).2) ∧ AW d 61 14 [l0, l1] [.int (mI m a (jx i))] m Q := A_baload hB_X5_tellFault dX5_tellFault_13
theorem dX5_tellFault_14 : decode cX5_tellFault 14 = .ok (.ifCond .eq 5, 3) := by decide +kernel
theorem tX5_tellFault_14 {d : Nat} {l0 l1 : Option Value} {x : Int32} {m : jmM} {Q : Option Value → jmM → Prop} : AW d 61 14 [l0, l1] [.int x] m Q ↔ if x = 0 then AW d 61 19 [l0, l1] [] m Q else AW d 61 17 [l0, l1] [] m Q := A_if_eq hB_X5_tellFault dX5_tellFault_14 (by decide)
theorem dX5_tellFault_17 : decode cX5_tellFault 17 = .ok (.iconst 0, 1) := by decide +kernel
theorem tX5_tellFault_17 {d : Nat} {l0 l1 : Option Value} {m : jmM} {Q : Option Value → jmM → Prop} : AW d 61 17 [l0, l1] [] m Q ↔ AW d 61 18 [l0, l1] [.int 0] m Q := A_iconst hB_X5_tellFault dX5_tellFault_17 (by decide)
theorem dX5_tellFault_18 : decode cX5_tellFault 18 = .ok (.ireturn, 1) := by decide +kernel
theorem tX5_tellFault_18 {d : Nat} {l0 l1 : Option Value} {x : Int32} {m : jmM} {Q : Option Value → jmM → Prop} : AW d 61 18 [l0, l1] [.int x] m Q ↔ jBool x ∧ Q (some (.int x)) m := A_zreturn hB_X5_tellFault dX5_tellFault_18 hR_X5_tellFault
theorem dX5_tellFault_19 : decode cX5_tellFault 19 = .ok (.aload_n 0, 1) := by decide +kernel
theorem tX5_tellFault_19 {d : Nat} {l1 : Option Value} {x : Nat} {m : jmM} {Q : Option Value → jmM → Prop} : AW d 61 19 [some (.ref x), l1] [] m Q ↔ AW d 61 20 [some (.ref x), l1] [.ref x] m Q := A_aload_n hB_X5_tellFault dX5_tellFault_19 rfl
theorem dX5_tellFault_20 : decode cX5_tellFault 20 = .ok (.getfield 67, 3) := by decide +kernel
theorem tX5_tellFault_20 {d : Nat} {l0 l1 : Option Value} {a : Nat} {m : jmM} {Q : Option Value → jmM → Prop} : AW d 61 20 [l0, l1] [.ref a] m Q ↔ (mS m a).1 = 5 ∧ AW d 61 23 [l0, l1] [va_rf (mR m a 16)] m Q := A_getfield (f := fun m a => va_rf (mR m a 16)) hB_X5_tellFault dX5_tellFault_20 hO_X5_tellFault fF_5_67 rfl
theorem dX5_tellFault_23 : decode cX5_tellFault 23 = .ok (.iload_n 1, 1) := by decide +kernel
theorem tX5_tellFault_23 {d : Nat} {l0 : Option Value} {v0 : Value} {x : Int32} {m : jmM} {Q : Option Value → jmM → Prop} : AW d 61 23 [l0, some (.int x)] [v0] m Q ↔ AW d 61 24 [l0, some (.int x)] [.int x, v0] m Q := A_iload_n hB_X5_tellFault dX5_tellFault_23 rfl
theorem dX5_tellFault_24 : decode cX5_tellFault 24 = .ok (.iconst 1, 1) := by decide +kernel
theorem tX5_tellFault_24 {d : Nat} {l0 l1 : Option Value} {v0 v1 : Value} {m : jmM} {Q : Option Value → jmM → Prop} : AW d 61 24 [l0, l1] [v0, v1] m Q ↔ AW d 61 25 [l0, l1] [.int 1, v0, v1] m Q := A_iconst hB_X5_tellFault dX5_tellFault_24 (by decide)
theorem dX5_tellFault_25 : decode cX5_tellFault 25 = .ok (.bastore, 1) := by decide +kernel
theorem tX5_tellFault_25 {d : Nat} {l0 l1 : Option Value} {x i : Int32} {a : Nat} {m : jmM} {Q : Option Value → jmM → Prop} : AW d 61 25 [l0, l1] [.int x, .int i, .ref a] m Q ↔ (((mS m a).1 = 22 ∨ (mS m a).1 = 23) ∧ jIx i (mS m a).2) ∧ AW d 61 26 [l0, l1] [] (cI m a (jup (mI m a) (jx i) (if (mS m a).1 = 22 then vp_nar .byte x else vp_nar .boolean x))) Q := A_bastore hB_X5_tellFault dX5_tellFault_25
theorem dX5_tellFault_26 : decode cX5_tellFault 26 = .ok (.iconst 1, 1) := by decide +kernel
theorem tX5_tellFault_26 {d : Nat} {l0 l1 : Option Value} {m : jmM} {Q : Option Value → jmM → Prop} : AW d 61 26 [l0, l1] [] m Q ↔ AW d 61 27 [l0, l1] [.int 1] m Q := A_iconst hB_X5_tellFault dX5_tellFault_26 (by decide)
theorem dX5_tellFault_27 : decode cX5_tellFault 27 = .ok (.ireturn, 1) := by decide +kernel
theorem tX5_tellFault_27 {d : Nat} {l0 l1 : Option Value} {x : Int32} {m : jmM} {Q : Option Value → jmM → Prop} : AW d 61 27 [l0, l1] [.int x] m Q ↔ jBool x ∧ Q (some (.int x)) m := A_zreturn hB_X5_tellFault dX5_tellFault_27 hR_X5_tellFault
theorem hB_X5_firstFaulted : jB 62 = cX5_firstFaulted := rfl
theorem hO_X5_firstFaulted : jO 62 = 5 := rfl
theorem hR_X5_firstFaulted : jRt 62 = (some .int) := rfl
theorem nX5_firstFaulted (d : Nat) (x0 : Nat) (m : jmM) (Q : Option Value → jmM → Prop) : CC (d + 1) 62 [.ref x0] m Q ↔ AW d 62 0 [some (.ref x0), none] [] m Q := CC_body (Nat.le_of_ble_eq_true rfl)
theorem dX5_firstFaulted_0 : decode cX5_firstFaulted 0 = .ok (.iconst 0, 1) := by decide +kernel
theorem tX5_firstFaulted_0 {d : Nat} {l0 l1 : Option Value} {m : jmM} {Q : Option Value → jmM → Prop} : AW d 62 0 [l0, l1] [] m Q ↔ AW d 62 1 [l0, l1] [.int 0] m Q := A_iconst hB_X5_firstFaulted dX5_firstFaulted_0 (by decide)
theorem dX5_firstFaulted_1 : decode cX5_firstFaulted 1 = .ok (.istore_n 1, 1) := by decide +kernel
theorem tX5_firstFaulted_1 {d : Nat} {l0 l1 : Option Value} {x : Int32} {m : jmM} {Q : Option Value → jmM → Prop} : AW d 62 1 [l0, l1] [.int x] m Q ↔ AW d 62 2 [jc1 l0, some (.int x)] [] m Q := A_istore_n hB_X5_firstFaulted dX5_firstFaulted_1 (Nat.le_of_ble_eq_true rfl) rfl
theorem dX5_firstFaulted_2 : decode cX5_firstFaulted 2 = .ok (.iload_n 1, 1) := by decide +kernel
theorem tX5_firstFaulted_2 {d : Nat} {l0 : Option Value} {x : Int32} {m : jmM} {Q : Option Value → jmM → Prop} : AW d 62 2 [l0, some (.int x)] [] m Q ↔ AW d 62 3 [l0, some (.int x)] [.int x] m Q := A_iload_n hB_X5_firstFaulted dX5_firstFaulted_2 rfl
theorem dX5_firstFaulted_3 : decode cX5_firstFaulted 3 = .ok (.aload_n 0, 1) := by decide +kernel
theorem tX5_firstFaulted_3 {d : Nat} {l1 : Option Value} {v0 : Value} {x : Nat} {m : jmM} {Q : Option Value → jmM → Prop} : AW d 62 3 [some (.ref x), l1] [v0] m Q ↔ AW d 62 4 [some (.ref x), l1] [.ref x, v0] m Q := A_aload_n hB_X5_firstFaulted dX5_firstFaulted_3 rfl
theorem dX5_firstFaulted_4 : decode cX5_firstFaulted 4 = .ok (.getfield 51, 3) := by decide +kernel
theorem tX5_firstFaulted_4 {d : Nat} {l0 l1 : Option Value} {v1 : Value} {a : Nat} {m : jmM} {Q : Option Value → jmM → Prop} : AW d 62 4 [l0, l1] [.ref a, v1] m Q ↔ (mS m a).1 = 5 ∧ AW d 62 7 [l0, l1] [.int (mI m a 11), v1] m Q := A_getfield (f := fun m a => .int (mI m a 11)) hB_X5_firstFaulted dX5_firstFaulted_4 hO_X5_firstFaulted fF_5_51 rfl
theorem dX5_firstFaulted_7 : decode cX5_firstFaulted 7 = .ok (.if_icmp .ge 20, 3) := by decide +kernel
theorem tX5_firstFaulted_7 {d : Nat} {l0 l1 : Option Value} {x y : Int32} {m : jmM} {Q : Option Value → jmM → Prop} : AW d 62 7 [l0, l1] [.int y, .int x] m Q ↔ if y ≤ x then AW d 62 27 [l0, l1] [] m Q else AW d 62 10 [l0, l1] [] m Q := A_icmp_ge hB_X5_firstFaulted dX5_firstFaulted_7 (by decide)
theorem dX5_firstFaulted_10 : decode cX5_firstFaulted 10 = .ok (.aload_n 0, 1) := by decide +kernel
theorem tX5_firstFaulted_10 {d : Nat} {l1 : Option Value} {x : Nat} {m : jmM} {Q : Option Value → jmM → Prop} : AW d 62 10 [some (.ref x), l1] [] m Q ↔ AW d 62 11 [some (.ref x), l1] [.ref x] m Q := A_aload_n hB_X5_firstFaulted dX5_firstFaulted_10 rfl
theorem dX5_firstFaulted_11 : decode cX5_firstFaulted 11 = .ok (.getfield 67, 3) := by decide +kernel
theorem tX5_firstFaulted_11 {d : Nat} {l0 l1 : Option Value} {a : Nat} {m : jmM} {Q : Option Value → jmM → Prop} : AW d 62 11 [l0, l1] [.ref a] m Q ↔ (mS m a).1 = 5 ∧ AW d 62 14 [l0, l1] [va_rf (mR m a 16)] m Q := A_getfield (f := fun m a => va_rf (mR m a 16)) hB_X5_firstFaulted dX5_firstFaulted_11 hO_X5_firstFaulted fF_5_67 rfl
theorem dX5_firstFaulted_14 : decode cX5_firstFaulted 14 = .ok (.iload_n 1, 1) := by decide +kernel
theorem tX5_firstFaulted_14 {d : Nat} {l0 : Option Value} {v0 : Value} {x : Int32} {m : jmM} {Q : Option Value → jmM → Prop} : AW d 62 14 [l0, some (.int x)] [v0] m Q ↔ AW d 62 15 [l0, some (.int x)] [.int x, v0] m Q := A_iload_n hB_X5_firstFaulted dX5_firstFaulted_14 rfl
theorem dX5_firstFaulted_15 : decode cX5_firstFaulted 15 = .ok (.baload, 1) := by decide +kernel
theorem tX5_firstFaulted_15 {d : Nat} {l0 l1 : Option Value} {i : Int32} {a : Nat} {m : jmM} {Q : Option Value → jmM → Prop} : AW d 62 15 [l0, l1] [.int i, .ref a] m Q ↔ (((mS m a).1 = 22 ∨ (mS m a).1 = 23) ∧ jIx i (mS m a).2) ∧ AW d 62 16 [l0, l1] [.int (mI m a (jx i))] m Q := A_baload hB_X5_firstFaulted dX5_firstFaulted_15
theorem dX5_firstFaulted_16 : decode cX5_firstFaulted 16 = .ok (.ifCond .eq 5, 3) := by decide +kernel
theorem tX5_firstFaulted_16 {d : Nat} {l0 l1 : Option Value} {x : Int32} {m : jmM} {Q : Option Value → jmM → Prop} : AW d 62 16 [l0, l1] [.int x] m Q ↔ if x = 0 then AW d 62 21 [l0, l1] [] m Q else AW d 62 19 [l0, l1] [] m Q := A_if_eq hB_X5_firstFaulted dX5_firstFaulted_16 (by decide)
theorem dX5_firstFaulted_19 : decode cX5_firstFaulted 19 = .ok (.iload_n 1, 1) := by decide +kernel
theorem tX5_firstFaulted_19 {d : Nat} {l0 : Option Value} {x : Int32} {m : jmM} {Q : Option Value → jmM → Prop} : AW d 62 19 [l0, some (.int x)] [] m Q ↔ AW d 62 20 [l0, some (.int x)] [.int x] m Q := A_iload_n hB_X5_firstFaulted dX5_firstFaulted_19 rfl
theorem dX5_firstFaulted_20 : decode cX5_firstFaulted 20 = .ok (.ireturn, 1) := by decide +kernel
theorem tX5_firstFaulted_20 {d : Nat} {l0 l1 : Option Value} {x : Int32} {m : jmM} {Q : Option Value → jmM → Prop} : AW d 62 20 [l0, l1] [.int x] m Q ↔ Q (some (.int x)) m := A_ireturn hB_X5_firstFaulted dX5_firstFaulted_20 hR_X5_firstFaulted
theorem dX5_firstFaulted_21 : decode cX5_firstFaulted 21 = .ok (.iinc 1 1, 3) := by decide +kernel
theorem tX5_firstFaulted_21 {d : Nat} {l0 : Option Value} {x : Int32} {m : jmM} {Q : Option Value → jmM → Prop} : AW d 62 21 [l0, some (.int x)] [] m Q ↔ AW d 62 24 [jc1 l0, some (.int (x + 1))] [] m Q := A_iinc hB_X5_firstFaulted dX5_firstFaulted_21 rfl (Nat.le_of_ble_eq_true rfl) (v := 1) (by decide) rfl
theorem dX5_firstFaulted_24 : decode cX5_firstFaulted 24 = .ok (.goto (-22), 3) := by decide +kernel
theorem tX5_firstFaulted_24 {d : Nat} {l0 l1 : Option Value} {m : jmM} {Q : Option Value → jmM → Prop} : AW d 62 24 [l0, l1] [] m Q ↔ AW d 62 2 [l0, l1] [] m Q := A_goto hB_X5_firstFaulted dX5_firstFaulted_24 (by decide)
theorem dX5_firstFaulted_27 : decode cX5_firstFaulted 27 = .ok (.aload_n 0, 1) := by decide +kernel
theorem tX5_firstFaulted_27 {d : Nat} {l1 : Option Value} {x : Nat} {m : jmM} {Q : Option Value → jmM → Prop} : AW d 62 27 [some (.ref x), l1] [] m Q ↔ AW d 62 28 [some (.ref x), l1] [.ref x] m Q := A_aload_n hB_X5_firstFaulted dX5_firstFaulted_27 rfl
theorem dX5_firstFaulted_28 : decode cX5_firstFaulted 28 = .ok (.getfield 51, 3) := by decide +kernel
theorem tX5_firstFaulted_28 {d : Nat} {l0 l1 : Option Value} {a : Nat} {m : jmM} {Q : Option Value → jmM → Prop} : AW d 62 28 [l0, l1] [.ref a] m Q ↔ (mS m a).1 = 5 ∧ AW d 62 31 [l0, l1] [.int (mI m a 11)] m Q := A_getfield (f := fun m a => .int (mI m a 11)) hB_X5_firstFaulted dX5_firstFaulted_28 hO_X5_firstFaulted fF_5_51 rfl
theorem dX5_firstFaulted_31 : decode cX5_firstFaulted 31 = .ok (.ireturn, 1) := by decide +kernel
theorem tX5_firstFaulted_31 {d : Nat} {l0 l1 : Option Value} {x : Int32} {m : jmM} {Q : Option Value → jmM → Prop} : AW d 62 31 [l0, l1] [.int x] m Q ↔ Q (some (.int x)) m := A_ireturn hB_X5_firstFaulted dX5_firstFaulted_31 hR_X5_firstFaulted
theorem hB_X5_firstClean : jB 63 = cX5_firstClean := rfl
theorem hO_X5_firstClean : jO 63 = 5 := rfl
theorem hR_X5_firstClean : jRt 63 = (some .int) := rfl
theorem nX5_firstClean (d : Nat) (x0 : Nat) (x1 : Int32) (m : jmM) (Q : Option Value → jmM → Prop) : CC (d + 1) 63 [.ref x0, .int x1] m Q ↔ AW d 63 0 [some (.ref x0), some (.int x1), none, none] [] m Q := CC_body (Nat.le_of_ble_eq_true rfl)
theorem dX5_firstClean_0 : decode cX5_firstClean 0 = .ok (.aload_n 0, 1) := by decide +kernel
theorem tX5_firstClean_0 {d : Nat} {l1 l2 l3 : Option Value} {x : Nat} {m : jmM} {Q : Option Value → jmM → Prop} : AW d 63 0 [some (.ref x), l1, l2, l3] [] m Q ↔ AW d 63 1 [some (.ref x), l1, l2, l3] [.ref x] m Q := A_aload_n hB_X5_firstClean dX5_firstClean_0 rfl
theorem dX5_firstClean_1 : decode cX5_firstClean 1 = .ok (.getfield 12, 3) := by decide +kernel
theorem tX5_firstClean_1 {d : Nat} {l0 l1 l2 l3 : Option Value} {a : Nat} {m : jmM} {Q : Option Value → jmM → Prop} : AW d 63 1 [l0, l1, l2, l3] [.ref a] m Q ↔ (mS m a).1 = 5 ∧ AW d 63 4 [l0, l1, l2, l3] [va_rf (mR m a 0)] m Q := A_getfield (f := fun m a => va_rf (mR m a 0)) hB_X5_firstClean dX5_firstClean_1 hO_X5_firstClean fF_5_12 rfl
theorem dX5_firstClean_4 : decode cX5_firstClean 4 = .ok (.invokevirtual 210, 3) := by decide +kernel
theorem tX5_firstClean_4 {d : Nat} {l0 l1 l2 l3 : Option Value} {a : Nat} {m : jmM} {Q : Option Value → jmM → Prop} : AW d 63 4 [l0, l1, l2, l3] [.ref a] m Q ↔ (mS m a).1 = 8 ∧ CC d 127 [.ref a] m (jK d 63 7 [l0, l1, l2, l3] [] Q) := A_callV hB_X5_firstClean dX5_firstClean_4 hO_X5_firstClean fS_5_210 ⟨Nat.le_of_ble_eq_true rfl, Nat.le_of_ble_eq_true rfl⟩ rfl rfl rfl
theorem dX5_firstClean_7 : decode cX5_firstClean 7 = .ok (.istore_n 2, 1) := by decide +kernel
theorem tX5_firstClean_7 {d : Nat} {l0 l1 l2 l3 : Option Value} {x : Int32} {m : jmM} {Q : Option Value → jmM → Prop} : AW d 63 7 [l0, l1, l2, l3] [.int x] m Q ↔ AW d 63 8 [l0, jc1 l1, some (.int x), l3] [] m Q := A_istore_n hB_X5_firstClean dX5_firstClean_7 (Nat.le_of_ble_eq_true rfl) rfl
theorem dX5_firstClean_8 : decode cX5_firstClean 8 = .ok (.iconst 0, 1) := by decide +kernel
theorem tX5_firstClean_8 {d : Nat} {l0 l1 l2 l3 : Option Value} {m : jmM} {Q : Option Value → jmM → Prop} : AW d 63 8 [l0, l1, l2, l3] [] m Q ↔ AW d 63 9 [l0, l1, l2, l3] [.int 0] m Q := A_iconst hB_X5_firstClean dX5_firstClean_8 (by decide)
theorem dX5_firstClean_9 : decode cX5_firstClean 9 = .ok (.istore_n 3, 1) := by decide +kernel
theorem tX5_firstClean_9 {d : Nat} {l0 l1 l2 l3 : Option Value} {x : Int32} {m : jmM} {Q : Option Value → jmM → Prop} : AW d 63 9 [l0, l1, l2, l3] [.int x] m Q ↔ AW d 63 10 [l0, l1, jc1 l2, some (.int x)] [] m Q := A_istore_n hB_X5_firstClean dX5_firstClean_9 (Nat.le_of_ble_eq_true rfl) rfl
theorem dX5_firstClean_10 : decode cX5_firstClean 10 = .ok (.iload_n 3, 1) := by decide +kernel
theorem tX5_firstClean_10 {d : Nat} {l0 l1 l2 : Option Value} {x : Int32} {m : jmM} {Q : Option Value → jmM → Prop} : AW d 63 10 [l0, l1, l2, some (.int x)] [] m Q ↔ AW d 63 11 [l0, l1, l2, some (.int x)] [.int x] m Q := A_iload_n hB_X5_firstClean dX5_firstClean_10 rfl
theorem dX5_firstClean_11 : decode cX5_firstClean 11 = .ok (.aload_n 0, 1) := by decide +kernel
theorem tX5_firstClean_11 {d : Nat} {l1 l2 l3 : Option Value} {v0 : Value} {x : Nat} {m : jmM} {Q : Option Value → jmM → Prop} : AW d 63 11 [some (.ref x), l1, l2, l3] [v0] m Q ↔ AW d 63 12 [some (.ref x), l1, l2, l3] [.ref x, v0] m Q := A_aload_n hB_X5_firstClean dX5_firstClean_11 rfl
theorem dX5_firstClean_12 : decode cX5_firstClean 12 = .ok (.getfield 51, 3) := by decide +kernel
theorem tX5_firstClean_12 {d : Nat} {l0 l1 l2 l3 : Option Value} {v1 : Value} {a : Nat} {m : jmM} {Q : Option Value → jmM → Prop} : AW d 63 12 [l0, l1, l2, l3] [.ref a, v1] m Q ↔ (mS m a).1 = 5 ∧ AW d 63 15 [l0, l1, l2, l3] [.int (mI m a 11), v1] m Q := A_getfield (f := fun m a => .int (mI m a 11)) hB_X5_firstClean dX5_firstClean_12 hO_X5_firstClean fF_5_51 rfl
theorem dX5_firstClean_15 : decode cX5_firstClean 15 = .ok (.if_icmp .ge 38, 3) := by decide +kernel
theorem tX5_firstClean_15 {d : Nat} {l0 l1 l2 l3 : Option Value} {x y : Int32} {m : jmM} {Q : Option Value → jmM → Prop} : AW d 63 15 [l0, l1, l2, l3] [.int y, .int x] m Q ↔ if y ≤ x then AW d 63 53 [l0, l1, l2, l3] [] m Q else AW d 63 18 [l0, l1, l2, l3] [] m Q := A_icmp_ge hB_X5_firstClean dX5_firstClean_15 (by decide)
theorem dX5_firstClean_18 : decode cX5_firstClean 18 = .ok (.iload_n 2, 1) := by decide +kernel
theorem tX5_firstClean_18 {d : Nat} {l0 l1 l3 : Option Value} {x : Int32} {m : jmM} {Q : Option Value → jmM → Prop} : AW d 63 18 [l0, l1, some (.int x), l3] [] m Q ↔ AW d 63 19 [l0, l1, some (.int x), l3] [.int x] m Q := A_iload_n hB_X5_firstClean dX5_firstClean_18 rfl
theorem dX5_firstClean_19 : decode cX5_firstClean 19 = .ok (.ifCond .gt 5, 3) := by decide +kernel
theorem tX5_firstClean_19 {d : Nat} {l0 l1 l2 l3 : Option Value} {x : Int32} {m : jmM} {Q : Option Value → jmM → Prop} : AW d 63 19 [l0, l1, l2, l3] [.int x] m Q ↔ if 0 < x then AW d 63 24 [l0, l1, l2, l3] [] m Q else AW d 63 22 [l0, l1, l2, l3] [] m Q := A_if_gt hB_X5_firstClean dX5_firstClean_19 (by decide)
theorem dX5_firstClean_22 : decode cX5_firstClean 22 = .ok (.iload_n 3, 1) := by decide +kernel
theorem tX5_firstClean_22 {d : Nat} {l0 l1 l2 : Option Value} {x : Int32} {m : jmM} {Q : Option Value → jmM → Prop} : AW d 63 22 [l0, l1, l2, some (.int x)] [] m Q ↔ AW d 63 23 [l0, l1, l2, some (.int x)] [.int x] m Q := A_iload_n hB_X5_firstClean dX5_firstClean_22 rfl
theorem dX5_firstClean_23 : decode cX5_firstClean 23 = .ok (.ireturn, 1) := by decide +kernel
theorem tX5_firstClean_23 {d : Nat} {l0 l1 l2 l3 : Option Value} {x : Int32} {m : jmM} {Q : Option Value → jmM → Prop} : AW d 63 23 [l0, l1, l2, l3] [.int x] m Q ↔ Q (some (.int x)) m := A_ireturn hB_X5_firstClean dX5_firstClean_23 hR_X5_firstClean
theorem dX5_firstClean_24 : decode cX5_firstClean 24 = .ok (.iload_n 2, 1) := by decide +kernel
theorem tX5_firstClean_24 {d : Nat} {l0 l1 l3 : Option Value} {x : Int32} {m : jmM} {Q : Option Value → jmM → Prop} : AW d 63 24 [l0, l1, some (.int x), l3] [] m Q ↔ AW d 63 25 [l0, l1, some (.int x), l3] [.int x] m Q := A_iload_n hB_X5_firstClean dX5_firstClean_24 rfl
theorem dX5_firstClean_25 : decode cX5_firstClean 25 = .ok (.aload_n 0, 1) := by decide +kernel
theorem tX5_firstClean_25 {d : Nat} {l1 l2 l3 : Option Value} {v0 : Value} {x : Nat} {m : jmM} {Q : Option Value → jmM → Prop} : AW d 63 25 [some (.ref x), l1, l2, l3] [v0] m Q ↔ AW d 63 26 [some (.ref x), l1, l2, l3] [.ref x, v0] m Q := A_aload_n hB_X5_firstClean dX5_firstClean_25 rfl
theorem dX5_firstClean_26 : decode cX5_firstClean 26 = .ok (.getfield 54, 3) := by decide +kernel
theorem tX5_firstClean_26 {d : Nat} {l0 l1 l2 l3 : Option Value} {v1 : Value} {a : Nat} {m : jmM} {Q : Option Value → jmM → Prop} : AW d 63 26 [l0, l1, l2, l3] [.ref a, v1] m Q ↔ (mS m a).1 = 5 ∧ AW d 63 29 [l0, l1, l2, l3] [va_rf (mR m a 12), v1] m Q := A_getfield (f := fun m a => va_rf (mR m a 12)) hB_X5_firstClean dX5_firstClean_26 hO_X5_firstClean fF_5_54 rfl
theorem dX5_firstClean_29 : decode cX5_firstClean 29 = .ok (.iload_n 3, 1) := by decide +kernel
theorem tX5_firstClean_29 {d : Nat} {l0 l1 l2 : Option Value} {v0 v1 : Value} {x : Int32} {m : jmM} {Q : Option Value → jmM → Prop} : AW d 63 29 [l0, l1, l2, some (.int x)] [v0, v1] m Q ↔ AW d 63 30 [l0, l1, l2, some (.int x)] [.int x, v0, v1] m Q := A_iload_n hB_X5_firstClean dX5_firstClean_29 rfl
theorem dX5_firstClean_30 : decode cX5_firstClean 30 = .ok (.iaload, 1) := by decide +kernel
theorem tX5_firstClean_30 {d : Nat} {l0 l1 l2 l3 : Option Value} {v2 : Value} {i : Int32} {a : Nat} {m : jmM} {Q : Option Value → jmM → Prop} : AW d 63 30 [l0, l1, l2, l3] [.int i, .ref a, v2] m Q ↔ (((mS m a).1 = 20 ∨ a = jScr) ∧ jIx i (mS m a).2) ∧ AW d 63 31 [l0, l1, l2, l3] [.int (mI m a (jx i)), v2] m Q := A_iaload hB_X5_firstClean dX5_firstClean_30
theorem dX5_firstClean_31 : decode cX5_firstClean 31 = .ok (.iload_n 1, 1) := by decide +kernel
theorem tX5_firstClean_31 {d : Nat} {l0 l2 l3 : Option Value} {v0 v1 : Value} {x : Int32} {m : jmM} {Q : Option Value → jmM → Prop} : AW d 63 31 [l0, some (.int x), l2, l3] [v0, v1] m Q ↔ AW d 63 32 [l0, some (.int x), l2, l3] [.int x, v0, v1] m Q := A_iload_n hB_X5_firstClean dX5_firstClean_31 rfl
theorem dX5_firstClean_32 : decode cX5_firstClean 32 = .ok (.if_icmp .gt 12, 3) := by decide +kernel
theorem tX5_firstClean_32 {d : Nat} {l0 l1 l2 l3 : Option Value} {v2 : Value} {x y : Int32} {m : jmM} {Q : Option Value → jmM → Prop} : AW d 63 32 [l0, l1, l2, l3] [.int y, .int x, v2] m Q ↔ if y < x then AW d 63 44 [l0, l1, l2, l3] [v2] m Q else AW d 63 35 [l0, l1, l2, l3] [v2] m Q := A_icmp_gt hB_X5_firstClean dX5_firstClean_32 (by decide)
theorem dX5_firstClean_35 : decode cX5_firstClean 35 = .ok (.aload_n 0, 1) := by decide +kernel
theorem tX5_firstClean_35 {d : Nat} {l1 l2 l3 : Option Value} {v0 : Value} {x : Nat} {m : jmM} {Q : Option Value → jmM → Prop} : AW d 63 35 [some (.ref x), l1, l2, l3] [v0] m Q ↔ AW d 63 36 [some (.ref x), l1, l2, l3] [.ref x, v0] m Q := A_aload_n hB_X5_firstClean dX5_firstClean_35 rfl
theorem dX5_firstClean_36 : decode cX5_firstClean 36 = .ok (.getfield 61, 3) := by decide +kernel
theorem tX5_firstClean_36 {d : Nat} {l0 l1 l2 l3 : Option Value} {v1 : Value} {a : Nat} {m : jmM} {Q : Option Value → jmM → Prop} : AW d 63 36 [l0, l1, l2, l3] [.ref a, v1] m Q ↔ (mS m a).1 = 5 ∧ AW d 63 39 [l0, l1, l2, l3] [va_rf (mR m a 14), v1] m Q := A_getfield (f := fun m a => va_rf (mR m a 14)) hB_X5_firstClean dX5_firstClean_36 hO_X5_firstClean fF_5_61 rfl
theorem dX5_firstClean_39 : decode cX5_firstClean 39 = .ok (.iload_n 3, 1) := by decide +kernel
theorem tX5_firstClean_39 {d : Nat} {l0 l1 l2 : Option Value} {v0 v1 : Value} {x : Int32} {m : jmM} {Q : Option Value → jmM → Prop} : AW d 63 39 [l0, l1, l2, some (.int x)] [v0, v1] m Q ↔ AW d 63 40 [l0, l1, l2, some (.int x)] [.int x, v0, v1] m Q := A_iload_n hB_X5_firstClean dX5_firstClean_39 rfl
theorem dX5_firstClean_40 : decode cX5_firstClean 40 = .ok (.iaload, 1) := by decide +kernel
theorem tX5_firstClean_40 {d : Nat} {l0 l1 l2 l3 : Option Value} {v2 : Value} {i : Int32} {a : Nat} {m : jmM} {Q : Option Value → jmM → Prop} : AW d 63 40 [l0, l1, l2, l3] [.int i, .ref a, v2] m Q ↔ (((mS m a).1 = 20 ∨ a = jScr) ∧ jIx i (mS m a).2) ∧ AW d 63 41 [l0, l1, l2, l3] [.int (mI m a (jx i)), v2] m Q := A_iaload hB_X5_firstClean dX5_firstClean_40
theorem dX5_firstClean_41 : decode cX5_firstClean 41 = .ok (.goto 4, 3) := by decide +kernel
theorem tX5_firstClean_41 {d : Nat} {l0 l1 l2 l3 : Option Value} {v0 v1 : Value} {m : jmM} {Q : Option Value → jmM → Prop} : AW d 63 41 [l0, l1, l2, l3] [v0, v1] m Q ↔ AW d 63 45 [l0, l1, l2, l3] [v0, v1] m Q := A_goto hB_X5_firstClean dX5_firstClean_41 (by decide)
theorem dX5_firstClean_44 : decode cX5_firstClean 44 = .ok (.iconst 0, 1) := by decide +kernel
theorem tX5_firstClean_44 {d : Nat} {l0 l1 l2 l3 : Option Value} {v0 : Value} {m : jmM} {Q : Option Value → jmM → Prop} : AW d 63 44 [l0, l1, l2, l3] [v0] m Q ↔ AW d 63 45 [l0, l1, l2, l3] [.int 0, v0] m Q := A_iconst hB_X5_firstClean dX5_firstClean_44 (by decide)
theorem dX5_firstClean_45 : decode cX5_firstClean 45 = .ok (.isub, 1) := by decide +kernel
theorem tX5_firstClean_45 {d : Nat} {l0 l1 l2 l3 : Option Value} {x y : Int32} {m : jmM} {Q : Option Value → jmM → Prop} : AW d 63 45 [l0, l1, l2, l3] [.int y, .int x] m Q ↔ AW d 63 46 [l0, l1, l2, l3] [.int (x - y)] m Q := A_isub hB_X5_firstClean dX5_firstClean_45
theorem dX5_firstClean_46 : decode cX5_firstClean 46 = .ok (.istore_n 2, 1) := by decide +kernel
theorem tX5_firstClean_46 {d : Nat} {l0 l1 l2 l3 : Option Value} {x : Int32} {m : jmM} {Q : Option Value → jmM → Prop} : AW d 63 46 [l0, l1, l2, l3] [.int x] m Q ↔ AW d 63 47 [l0, jc1 l1, some (.int x), l3] [] m Q := A_istore_n hB_X5_firstClean dX5_firstClean_46 (Nat.le_of_ble_eq_true rfl) rfl
theorem dX5_firstClean_47 : decode cX5_firstClean 47 = .ok (.iinc 3 1, 3) := by decide +kernel
theorem tX5_firstClean_47 {d : Nat} {l0 l1 l2 : Option Value} {x : Int32} {m : jmM} {Q : Option Value → jmM → Prop} : AW d 63 47 [l0, l1, l2, some (.int x)] [] m Q ↔ AW d 63 50 [l0, l1, jc1 l2, some (.int (x + 1))] [] m Q := A_iinc hB_X5_firstClean dX5_firstClean_47 rfl (Nat.le_of_ble_eq_true rfl) (v := 1) (by decide) rfl
theorem dX5_firstClean_50 : decode cX5_firstClean 50 = .ok (.goto (-40), 3) := by decide +kernel
theorem tX5_firstClean_50 {d : Nat} {l0 l1 l2 l3 : Option Value} {m : jmM} {Q : Option Value → jmM → Prop} : AW d 63 50 [l0, l1, l2, l3] [] m Q ↔ AW d 63 10 [l0, l1, l2, l3] [] m Q := A_goto hB_X5_firstClean dX5_firstClean_50 (by decide)
theorem dX5_firstClean_53 : decode cX5_firstClean 53 = .ok (.aload_n 0, 1) := by decide +kernel
theorem tX5_firstClean_53 {d : Nat} {l1 l2 l3 : Option Value} {x : Nat} {m : jmM} {Q : Option Value → jmM → Prop} : AW d 63 53 [some (.ref x), l1, l2, l3] [] m Q ↔ AW d 63 54 [some (.ref x), l1, l2, l3] [.ref x] m Q := A_aload_n hB_X5_firstClean dX5_firstClean_53 rfl
theorem dX5_firstClean_54 : decode cX5_firstClean 54 = .ok (.getfield 51, 3) := by decide +kernel
theorem tX5_firstClean_54 {d : Nat} {l0 l1 l2 l3 : Option Value} {a : Nat} {m : jmM} {Q : Option Value → jmM → Prop} : AW d 63 54 [l0, l1, l2, l3] [.ref a] m Q ↔ (mS m a).1 = 5 ∧ AW d 63 57 [l0, l1, l2, l3] [.int (mI m a 11)] m Q := A_getfield (f := fun m a => .int (mI m a 11)) hB_X5_firstClean dX5_firstClean_54 hO_X5_firstClean fF_5_51 rfl
theorem dX5_firstClean_57 : decode cX5_firstClean 57 = .ok (.ireturn, 1) := by decide +kernel
theorem tX5_firstClean_57 {d : Nat} {l0 l1 l2 l3 : Option Value} {x : Int32} {m : jmM} {Q : Option Value → jmM → Prop} : AW d 63 57 [l0, l1, l2, l3] [.int x] m Q ↔ Q (some (.int x)) m := A_ireturn hB_X5_firstClean dX5_firstClean_57 hR_X5_firstClean
theorem hB_X5_faultsLeft : jB 64 = cX5_faultsLeft := rfl
theorem hO_X5_faultsLeft : jO 64 = 5 := rfl
theorem hR_X5_faultsLeft : jRt 64 = (some .int) := rfl
theorem nX5_faultsLeft (d : Nat) (x0 : Nat) (x1 : Int32) (m : jmM) (Q : Option Value → jmM → Prop) : CC (d + 1) 64 [.ref x0, .int x1] m Q ↔ AW d 64 0 [some (.ref x0), some (.int x1), none, none] [] m Q := CC_body (Nat.le_of_ble_eq_true rfl)
theorem dX5_faultsLeft_0 : decode cX5_faultsLeft 0 = .ok (.aload_n 0, 1) := by decide +kernel
theorem tX5_faultsLeft_0 {d : Nat} {l1 l2 l3 : Option Value} {x : Nat} {m : jmM} {Q : Option Value → jmM → Prop} : AW d 64 0 [some (.ref x), l1, l2, l3] [] m Q ↔ AW d 64 1 [some (.ref x), l1, l2, l3] [.ref x] m Q := A_aload_n hB_X5_faultsLeft dX5_faultsLeft_0 rfl
theorem dX5_faultsLeft_1 : decode cX5_faultsLeft 1 = .ok (.getfield 12, 3) := by decide +kernel
theorem tX5_faultsLeft_1 {d : Nat} {l0 l1 l2 l3 : Option Value} {a : Nat} {m : jmM} {Q : Option Value → jmM → Prop} : AW d 64 1 [l0, l1, l2, l3] [.ref a] m Q ↔ (mS m a).1 = 5 ∧ AW d 64 4 [l0, l1, l2, l3] [va_rf (mR m a 0)] m Q := A_getfield (f := fun m a => va_rf (mR m a 0)) hB_X5_faultsLeft dX5_faultsLeft_1 hO_X5_faultsLeft fF_5_12 rfl
theorem dX5_faultsLeft_4 : decode cX5_faultsLeft 4 = .ok (.invokevirtual 210, 3) := by decide +kernel
theorem tX5_faultsLeft_4 {d : Nat} {l0 l1 l2 l3 : Option Value} {a : Nat} {m : jmM} {Q : Option Value → jmM → Prop} : AW d 64 4 [l0, l1, l2, l3] [.ref a] m Q ↔ (mS m a).1 = 8 ∧ CC d 127 [.ref a] m (jK d 64 7 [l0, l1, l2, l3] [] Q) := A_callV hB_X5_faultsLeft dX5_faultsLeft_4 hO_X5_faultsLeft fS_5_210 ⟨Nat.le_of_ble_eq_true rfl, Nat.le_of_ble_eq_true rfl⟩ rfl rfl rfl
theorem dX5_faultsLeft_7 : decode cX5_faultsLeft 7 = .ok (.istore_n 2, 1) := by decide +kernel
theorem tX5_faultsLeft_7 {d : Nat} {l0 l1 l2 l3 : Option Value} {x : Int32} {m : jmM} {Q : Option Value → jmM → Prop} : AW d 64 7 [l0, l1, l2, l3] [.int x] m Q ↔ AW d 64 8 [l0, jc1 l1, some (.int x), l3] [] m Q := A_istore_n hB_X5_faultsLeft dX5_faultsLeft_7 (Nat.le_of_ble_eq_true rfl) rfl
theorem dX5_faultsLeft_8 : decode cX5_faultsLeft 8 = .ok (.iconst 0, 1) := by decide +kernel
theorem tX5_faultsLeft_8 {d : Nat} {l0 l1 l2 l3 : Option Value} {m : jmM} {Q : Option Value → jmM → Prop} : AW d 64 8 [l0, l1, l2, l3] [] m Q ↔ AW d 64 9 [l0, l1, l2, l3] [.int 0] m Q := A_iconst hB_X5_faultsLeft dX5_faultsLeft_8 (by decide)
theorem dX5_faultsLeft_9 : decode cX5_faultsLeft 9 = .ok (.istore_n 3, 1) := by decide +kernel
theorem tX5_faultsLeft_9 {d : Nat} {l0 l1 l2 l3 : Option Value} {x : Int32} {m : jmM} {Q : Option Value → jmM → Prop} : AW d 64 9 [l0, l1, l2, l3] [.int x] m Q ↔ AW d 64 10 [l0, l1, jc1 l2, some (.int x)] [] m Q := A_istore_n hB_X5_faultsLeft dX5_faultsLeft_9 (Nat.le_of_ble_eq_true rfl) rfl
theorem dX5_faultsLeft_10 : decode cX5_faultsLeft 10 = .ok (.iload_n 3, 1) := by decide +kernel
theorem tX5_faultsLeft_10 {d : Nat} {l0 l1 l2 : Option Value} {x : Int32} {m : jmM} {Q : Option Value → jmM → Prop} : AW d 64 10 [l0, l1, l2, some (.int x)] [] m Q ↔ AW d 64 11 [l0, l1, l2, some (.int x)] [.int x] m Q := A_iload_n hB_X5_faultsLeft dX5_faultsLeft_10 rfl
theorem dX5_faultsLeft_11 : decode cX5_faultsLeft 11 = .ok (.aload_n 0, 1) := by decide +kernel
theorem tX5_faultsLeft_11 {d : Nat} {l1 l2 l3 : Option Value} {v0 : Value} {x : Nat} {m : jmM} {Q : Option Value → jmM → Prop} : AW d 64 11 [some (.ref x), l1, l2, l3] [v0] m Q ↔ AW d 64 12 [some (.ref x), l1, l2, l3] [.ref x, v0] m Q := A_aload_n hB_X5_faultsLeft dX5_faultsLeft_11 rfl
theorem dX5_faultsLeft_12 : decode cX5_faultsLeft 12 = .ok (.getfield 51, 3) := by decide +kernel
theorem tX5_faultsLeft_12 {d : Nat} {l0 l1 l2 l3 : Option Value} {v1 : Value} {a : Nat} {m : jmM} {Q : Option Value → jmM → Prop} : AW d 64 12 [l0, l1, l2, l3] [.ref a, v1] m Q ↔ (mS m a).1 = 5 ∧ AW d 64 15 [l0, l1, l2, l3] [.int (mI m a 11), v1] m Q := A_getfield (f := fun m a => .int (mI m a 11)) hB_X5_faultsLeft dX5_faultsLeft_12 hO_X5_faultsLeft fF_5_51 rfl
theorem dX5_faultsLeft_15 : decode cX5_faultsLeft 15 = .ok (.if_icmp .ge 32, 3) := by decide +kernel
theorem tX5_faultsLeft_15 {d : Nat} {l0 l1 l2 l3 : Option Value} {x y : Int32} {m : jmM} {Q : Option Value → jmM → Prop} : AW d 64 15 [l0, l1, l2, l3] [.int y, .int x] m Q ↔ if y ≤ x then AW d 64 47 [l0, l1, l2, l3] [] m Q else AW d 64 18 [l0, l1, l2, l3] [] m Q := A_icmp_ge hB_X5_faultsLeft dX5_faultsLeft_15 (by decide)
theorem dX5_faultsLeft_18 : decode cX5_faultsLeft 18 = .ok (.iload_n 2, 1) := by decide +kernel
theorem tX5_faultsLeft_18 {d : Nat} {l0 l1 l3 : Option Value} {x : Int32} {m : jmM} {Q : Option Value → jmM → Prop} : AW d 64 18 [l0, l1, some (.int x), l3] [] m Q ↔ AW d 64 19 [l0, l1, some (.int x), l3] [.int x] m Q := A_iload_n hB_X5_faultsLeft dX5_faultsLeft_18 rfl
theorem dX5_faultsLeft_19 : decode cX5_faultsLeft 19 = .ok (.aload_n 0, 1) := by decide +kernel
theorem tX5_faultsLeft_19 {d : Nat} {l1 l2 l3 : Option Value} {v0 : Value} {x : Nat} {m : jmM} {Q : Option Value → jmM → Prop} : AW d 64 19 [some (.ref x), l1, l2, l3] [v0] m Q ↔ AW d 64 20 [some (.ref x), l1, l2, l3] [.ref x, v0] m Q := A_aload_n hB_X5_faultsLeft dX5_faultsLeft_19 rfl
theorem dX5_faultsLeft_20 : decode cX5_faultsLeft 20 = .ok (.getfield 54, 3) := by decide +kernel
theorem tX5_faultsLeft_20 {d : Nat} {l0 l1 l2 l3 : Option Value} {v1 : Value} {a : Nat} {m : jmM} {Q : Option Value → jmM → Prop} : AW d 64 20 [l0, l1, l2, l3] [.ref a, v1] m Q ↔ (mS m a).1 = 5 ∧ AW d 64 23 [l0, l1, l2, l3] [va_rf (mR m a 12), v1] m Q := A_getfield (f := fun m a => va_rf (mR m a 12)) hB_X5_faultsLeft dX5_faultsLeft_20 hO_X5_faultsLeft fF_5_54 rfl
theorem dX5_faultsLeft_23 : decode cX5_faultsLeft 23 = .ok (.iload_n 3, 1) := by decide +kernel
theorem tX5_faultsLeft_23 {d : Nat} {l0 l1 l2 : Option Value} {v0 v1 : Value} {x : Int32} {m : jmM} {Q : Option Value → jmM → Prop} : AW d 64 23 [l0, l1, l2, some (.int x)] [v0, v1] m Q ↔ AW d 64 24 [l0, l1, l2, some (.int x)] [.int x, v0, v1] m Q := A_iload_n hB_X5_faultsLeft dX5_faultsLeft_23 rfl
theorem dX5_faultsLeft_24 : decode cX5_faultsLeft 24 = .ok (.iaload, 1) := by decide +kernel
theorem tX5_faultsLeft_24 {d : Nat} {l0 l1 l2 l3 : Option Value} {v2 : Value} {i : Int32} {a : Nat} {m : jmM} {Q : Option Value → jmM → Prop} : AW d 64 24 [l0, l1, l2, l3] [.int i, .ref a, v2] m Q ↔ (((mS m a).1 = 20 ∨ a = jScr) ∧ jIx i (mS m a).2) ∧ AW d 64 25 [l0, l1, l2, l3] [.int (mI m a (jx i)), v2] m Q := A_iaload hB_X5_faultsLeft dX5_faultsLeft_24
theorem dX5_faultsLeft_25 : decode cX5_faultsLeft 25 = .ok (.iload_n 1, 1) := by decide +kernel
theorem tX5_faultsLeft_25 {d : Nat} {l0 l2 l3 : Option Value} {v0 v1 : Value} {x : Int32} {m : jmM} {Q : Option Value → jmM → Prop} : AW d 64 25 [l0, some (.int x), l2, l3] [v0, v1] m Q ↔ AW d 64 26 [l0, some (.int x), l2, l3] [.int x, v0, v1] m Q := A_iload_n hB_X5_faultsLeft dX5_faultsLeft_25 rfl
theorem dX5_faultsLeft_26 : decode cX5_faultsLeft 26 = .ok (.if_icmp .gt 12, 3) := by decide +kernel
theorem tX5_faultsLeft_26 {d : Nat} {l0 l1 l2 l3 : Option Value} {v2 : Value} {x y : Int32} {m : jmM} {Q : Option Value → jmM → Prop} : AW d 64 26 [l0, l1, l2, l3] [.int y, .int x, v2] m Q ↔ if y < x then AW d 64 38 [l0, l1, l2, l3] [v2] m Q else AW d 64 29 [l0, l1, l2, l3] [v2] m Q := A_icmp_gt hB_X5_faultsLeft dX5_faultsLeft_26 (by decide)
theorem dX5_faultsLeft_29 : decode cX5_faultsLeft 29 = .ok (.aload_n 0, 1) := by decide +kernel
theorem tX5_faultsLeft_29 {d : Nat} {l1 l2 l3 : Option Value} {v0 : Value} {x : Nat} {m : jmM} {Q : Option Value → jmM → Prop} : AW d 64 29 [some (.ref x), l1, l2, l3] [v0] m Q ↔ AW d 64 30 [some (.ref x), l1, l2, l3] [.ref x, v0] m Q := A_aload_n hB_X5_faultsLeft dX5_faultsLeft_29 rfl
theorem dX5_faultsLeft_30 : decode cX5_faultsLeft 30 = .ok (.getfield 61, 3) := by decide +kernel
theorem tX5_faultsLeft_30 {d : Nat} {l0 l1 l2 l3 : Option Value} {v1 : Value} {a : Nat} {m : jmM} {Q : Option Value → jmM → Prop} : AW d 64 30 [l0, l1, l2, l3] [.ref a, v1] m Q ↔ (mS m a).1 = 5 ∧ AW d 64 33 [l0, l1, l2, l3] [va_rf (mR m a 14), v1] m Q := A_getfield (f := fun m a => va_rf (mR m a 14)) hB_X5_faultsLeft dX5_faultsLeft_30 hO_X5_faultsLeft fF_5_61 rfl
theorem dX5_faultsLeft_33 : decode cX5_faultsLeft 33 = .ok (.iload_n 3, 1) := by decide +kernel
theorem tX5_faultsLeft_33 {d : Nat} {l0 l1 l2 : Option Value} {v0 v1 : Value} {x : Int32} {m : jmM} {Q : Option Value → jmM → Prop} : AW d 64 33 [l0, l1, l2, some (.int x)] [v0, v1] m Q ↔ AW d 64 34 [l0, l1, l2, some (.int x)] [.int x, v0, v1] m Q := A_iload_n hB_X5_faultsLeft dX5_faultsLeft_33 rfl
theorem dX5_faultsLeft_34 : decode cX5_faultsLeft 34 = .ok (.iaload, 1) := by decide +kernel
theorem tX5_faultsLeft_34 {d : Nat} {l0 l1 l2 l3 : Option Value} {v2 : Value} {i : Int32} {a : Nat} {m : jmM} {Q : Option Value → jmM → Prop} : AW d 64 34 [l0, l1, l2, l3] [.int i, .ref a, v2] m Q ↔ (((mS m a).1 = 20 ∨ a = jScr) ∧ jIx i (mS m a).2) ∧ AW d 64 35 [l0, l1, l2, l3] [.int (mI m a (jx i)), v2] m Q := A_iaload hB_X5_faultsLeft dX5_faultsLeft_34
theorem dX5_faultsLeft_35 : decode cX5_faultsLeft 35 = .ok (.goto 4, 3) := by decide +kernel
theorem tX5_faultsLeft_35 {d : Nat} {l0 l1 l2 l3 : Option Value} {v0 v1 : Value} {m : jmM} {Q : Option Value → jmM → Prop} : AW d 64 35 [l0, l1, l2, l3] [v0, v1] m Q ↔ AW d 64 39 [l0, l1, l2, l3] [v0, v1] m Q := A_goto hB_X5_faultsLeft dX5_faultsLeft_35 (by decide)
theorem dX5_faultsLeft_38 : decode cX5_faultsLeft 38 = .ok (.iconst 0, 1) := by decide +kernel
theorem tX5_faultsLeft_38 {d : Nat} {l0 l1 l2 l3 : Option Value} {v0 : Value} {m : jmM} {Q : Option Value → jmM → Prop} : AW d 64 38 [l0, l1, l2, l3] [v0] m Q ↔ AW d 64 39 [l0, l1, l2, l3] [.int 0, v0] m Q := A_iconst hB_X5_faultsLeft dX5_faultsLeft_38 (by decide)
theorem dX5_faultsLeft_39 : decode cX5_faultsLeft 39 = .ok (.isub, 1) := by decide +kernel
theorem tX5_faultsLeft_39 {d : Nat} {l0 l1 l2 l3 : Option Value} {x y : Int32} {m : jmM} {Q : Option Value → jmM → Prop} : AW d 64 39 [l0, l1, l2, l3] [.int y, .int x] m Q ↔ AW d 64 40 [l0, l1, l2, l3] [.int (x - y)] m Q := A_isub hB_X5_faultsLeft dX5_faultsLeft_39
theorem dX5_faultsLeft_40 : decode cX5_faultsLeft 40 = .ok (.istore_n 2, 1) := by decide +kernel
theorem tX5_faultsLeft_40 {d : Nat} {l0 l1 l2 l3 : Option Value} {x : Int32} {m : jmM} {Q : Option Value → jmM → Prop} : AW d 64 40 [l0, l1, l2, l3] [.int x] m Q ↔ AW d 64 41 [l0, jc1 l1, some (.int x), l3] [] m Q := A_istore_n hB_X5_faultsLeft dX5_faultsLeft_40 (Nat.le_of_ble_eq_true rfl) rfl
theorem dX5_faultsLeft_41 : decode cX5_faultsLeft 41 = .ok (.iinc 3 1, 3) := by decide +kernel
theorem tX5_faultsLeft_41 {d : Nat} {l0 l1 l2 : Option Value} {x : Int32} {m : jmM} {Q : Option Value → jmM → Prop} : AW d 64 41 [l0, l1, l2, some (.int x)] [] m Q ↔ AW d 64 44 [l0, l1, jc1 l2, some (.int (x + 1))] [] m Q := A_iinc hB_X5_faultsLeft dX5_faultsLeft_41 rfl (Nat.le_of_ble_eq_true rfl) (v := 1) (by decide) rfl
theorem dX5_faultsLeft_44 : decode cX5_faultsLeft 44 = .ok (.goto (-34), 3) := by decide +kernel
theorem tX5_faultsLeft_44 {d : Nat} {l0 l1 l2 l3 : Option Value} {m : jmM} {Q : Option Value → jmM → Prop} : AW d 64 44 [l0, l1, l2, l3] [] m Q ↔ AW d 64 10 [l0, l1, l2, l3] [] m Q := A_goto hB_X5_faultsLeft dX5_faultsLeft_44 (by decide)
theorem dX5_faultsLeft_47 : decode cX5_faultsLeft 47 = .ok (.iconst 0, 1) := by decide +kernel
theorem tX5_faultsLeft_47 {d : Nat} {l0 l1 l2 l3 : Option Value} {m : jmM} {Q : Option Value → jmM → Prop} : AW d 64 47 [l0, l1, l2, l3] [] m Q ↔ AW d 64 48 [l0, l1, l2, l3] [.int 0] m Q := A_iconst hB_X5_faultsLeft dX5_faultsLeft_47 (by decide)
theorem dX5_faultsLeft_48 : decode cX5_faultsLeft 48 = .ok (.iload_n 2, 1) := by decide +kernel
theorem tX5_faultsLeft_48 {d : Nat} {l0 l1 l3 : Option Value} {v0 : Value} {x : Int32} {m : jmM} {Q : Option Value → jmM → Prop} : AW d 64 48 [l0, l1, some (.int x), l3] [v0] m Q ↔ AW d 64 49 [l0, l1, some (.int x), l3] [.int x, v0] m Q := A_iload_n hB_X5_faultsLeft dX5_faultsLeft_48 rfl
theorem dX5_faultsLeft_49 : decode cX5_faultsLeft 49 = .ok (.invokestatic 213, 3) := by decide +kernel
theorem tX5_faultsLeft_49 {d : Nat} {l0 l1 l2 l3 : Option Value} {x y : Int32} {m : jmM} {Q : Option Value → jmM → Prop} : AW d 64 49 [l0, l1, l2, l3] [.int y, .int x] m Q ↔ AW d 64 52 [l0, l1, l2, l3] [.int (if x < y then y else x)] m Q := A_max hB_X5_faultsLeft dX5_faultsLeft_49 hO_X5_faultsLeft fS_5_213 (Nat.le_of_ble_eq_true rfl)
theorem dX5_faultsLeft_52 : decode cX5_faultsLeft 52 = .ok (.ireturn, 1) := by decide +kernel
theorem tX5_faultsLeft_52 {d : Nat} {l0 l1 l2 l3 : Option Value} {x : Int32} {m : jmM} {Q : Option Value → jmM → Prop} : AW d 64 52 [l0, l1, l2, l3] [.int x] m Q ↔ Q (some (.int x)) m := A_ireturn hB_X5_faultsLeft dX5_faultsLeft_52 hR_X5_faultsLeft
theorem hB_X5_tearsAt : jB 65 = cX5_tearsAt := rfl
theorem hO_X5_tearsAt : jO 65 = 5 := rfl
theorem hR_X5_tearsAt : jRt 65 = (some .int) := rfl
theorem nX5_tearsAt (d : Nat) (x0 : Nat) (x1 : Int32) (m : jmM) (Q : Option Value → jmM → Prop) : CC (d + 1) 65 [.ref x0, .int x1] m Q ↔ AW d 65 0 [some (.ref x0), some (.int x1), none, none, none, none] [] m Q := CC_body (Nat.le_of_ble_eq_true rfl)
theorem dX5_tearsAt_0 : decode cX5_tearsAt 0 = .ok (.aload_n 0, 1) := by decide +kernel
theorem tX5_tearsAt_0 {d : Nat} {l1 l2 l3 l4 l5 : Option Value} {x : Nat} {m : jmM} {Q : Option Value → jmM → Prop} : AW d 65 0 [some (.ref x), l1, l2, l3, l4, l5] [] m Q ↔ AW d 65 1 [some (.ref x), l1, l2, l3, l4, l5] [.ref x] m Q := A_aload_n hB_X5_tearsAt dX5_tearsAt_0 rfl
theorem dX5_tearsAt_1 : decode cX5_tearsAt 1 = .ok (.iload_n 1, 1) := by decide +kernel
theorem tX5_tearsAt_1 {d : Nat} {l0 l2 l3 l4 l5 : Option Value} {v0 : Value} {x : Int32} {m : jmM} {Q : Option Value → jmM → Prop} : AW d 65 1 [l0, some (.int x), l2, l3, l4, l5] [v0] m Q ↔ AW d 65 2 [l0, some (.int x), l2, l3, l4, l5] [.int x, v0] m Q := A_iload_n hB_X5_tearsAt dX5_tearsAt_1 rfl
theorem dX5_tearsAt_2 : decode cX5_tearsAt 2 = .ok (.invokevirtual 216, 3) := by decide +kernel
theorem tX5_tearsAt_2 {d : Nat} {l0 l1 l2 l3 l4 l5 : Option Value} {y0 : Value} {a : Nat} {m : jmM} {Q : Option Value → jmM → Prop} : AW d 65 2 [l0, l1, l2, l3, l4, l5] [y0, .ref a] m Q ↔ (mS m a).1 = 5 ∧ CC d 66 [.ref a, y0] m (jK d 65 5 [l0, l1, l2, l3, l4, l5] [] Q) := A_callV hB_X5_tearsAt dX5_tearsAt_2 hO_X5_tearsAt fS_5_216 ⟨Nat.le_of_ble_eq_true rfl, Nat.le_of_ble_eq_true rfl⟩ rfl rfl rfl
theorem dX5_tearsAt_5 : decode cX5_tearsAt 5 = .ok (.istore_n 2, 1) := by decide +kernel
theorem tX5_tearsAt_5 {d : Nat} {l0 l1 l2 l3 l4 l5 : Option Value} {x : Int32} {m : jmM} {Q : Option Value → jmM → Prop} : AW d 65 5 [l0, l1, l2, l3, l4, l5] [.int x] m Q ↔ AW d 65 6 [l0, jc1 l1, some (.int x), l3, l4, l5] [] m Q := A_istore_n hB_X5_tearsAt dX5_tearsAt_5 (Nat.le_of_ble_eq_true rfl) rfl
theorem dX5_tearsAt_6 : decode cX5_tearsAt 6 = .ok (.iload_n 2, 1) := by decide +kernel
theorem tX5_tearsAt_6 {d : Nat} {l0 l1 l3 l4 l5 : Option Value} {x : Int32} {m : jmM} {Q : Option Value → jmM → Prop} : AW d 65 6 [l0, l1, some (.int x), l3, l4, l5] [] m Q ↔ AW d 65 7 [l0, l1, some (.int x), l3, l4, l5] [.int x] m Q := A_iload_n hB_X5_tearsAt dX5_tearsAt_6 rfl
theorem dX5_tearsAt_7 : decode cX5_tearsAt 7 = .ok (.iconst (-1), 1) := by decide +kernel
theorem tX5_tearsAt_7 {d : Nat} {l0 l1 l2 l3 l4 l5 : Option Value} {v0 : Value} {m : jmM} {Q : Option Value → jmM → Prop} : AW d 65 7 [l0, l1, l2, l3, l4, l5] [v0] m Q ↔ AW d 65 8 [l0, l1, l2, l3, l4, l5] [.int (-1), v0] m Q := A_iconst hB_X5_tearsAt dX5_tearsAt_7 (by decide)
theorem dX5_tearsAt_8 : decode cX5_tearsAt 8 = .ok (.if_icmp .ne 6, 3) := by decide +kernel
theorem tX5_tearsAt_8 {d : Nat} {l0 l1 l2 l3 l4 l5 : Option Value} {x y : Int32} {m : jmM} {Q : Option Value → jmM → Prop} : AW d 65 8 [l0, l1, l2, l3, l4, l5] [.int y, .int x] m Q ↔ if x = y then AW d 65 11 [l0, l1, l2, l3, l4, l5] [] m Q else AW d 65 14 [l0, l1, l2, l3, l4, l5] [] m Q := A_icmp_ne hB_X5_tearsAt dX5_tearsAt_8 (by decide)
theorem dX5_tearsAt_11 : decode cX5_tearsAt 11 = .ok (.bipush (-2), 2) := by decide +kernel
theorem tX5_tearsAt_11 {d : Nat} {l0 l1 l2 l3 l4 l5 : Option Value} {m : jmM} {Q : Option Value → jmM → Prop} : AW d 65 11 [l0, l1, l2, l3, l4, l5] [] m Q ↔ AW d 65 13 [l0, l1, l2, l3, l4, l5] [.int (-2)] m Q := A_bipush hB_X5_tearsAt dX5_tearsAt_11 rfl
theorem dX5_tearsAt_13 : decode cX5_tearsAt 13 = .ok (.ireturn, 1) := by decide +kernel
theorem tX5_tearsAt_13 {d : Nat} {l0 l1 l2 l3 l4 l5 : Option Value} {x : Int32} {m : jmM} {Q : Option Value → jmM → Prop} : AW d 65 13 [l0, l1, l2, l3, l4, l5] [.int x] m Q ↔ Q (some (.int x)) m := A_ireturn hB_X5_tearsAt dX5_tearsAt_13 hR_X5_tearsAt
theorem dX5_tearsAt_14 : decode cX5_tearsAt 14 = .ok (.aload_n 0, 1) := by decide +kernel
theorem tX5_tearsAt_14 {d : Nat} {l1 l2 l3 l4 l5 : Option Value} {x : Nat} {m : jmM} {Q : Option Value → jmM → Prop} : AW d 65 14 [some (.ref x), l1, l2, l3, l4, l5] [] m Q ↔ AW d 65 15 [some (.ref x), l1, l2, l3, l4, l5] [.ref x] m Q := A_aload_n hB_X5_tearsAt dX5_tearsAt_14 rfl
theorem dX5_tearsAt_15 : decode cX5_tearsAt 15 = .ok (.iload_n 2, 1) := by decide +kernel
theorem tX5_tearsAt_15 {d : Nat} {l0 l1 l3 l4 l5 : Option Value} {v0 : Value} {x : Int32} {m : jmM} {Q : Option Value → jmM → Prop} : AW d 65 15 [l0, l1, some (.int x), l3, l4, l5] [v0] m Q ↔ AW d 65 16 [l0, l1, some (.int x), l3, l4, l5] [.int x, v0] m Q := A_iload_n hB_X5_tearsAt dX5_tearsAt_15 rfl
theorem dX5_tearsAt_16 : decode cX5_tearsAt 16 = .ok (.invokevirtual 204, 3) := by decide +kernel
theorem tX5_tearsAt_16 {d : Nat} {l0 l1 l2 l3 l4 l5 : Option Value} {y0 : Value} {a : Nat} {m : jmM} {Q : Option Value → jmM → Prop} : AW d 65 16 [l0, l1, l2, l3, l4, l5] [y0, .ref a] m Q ↔ (mS m a).1 = 5 ∧ CC d 81 [.ref a, y0] m (jK d 65 19 [l0, l1, l2, l3, l4, l5] [] Q) := A_callV hB_X5_tearsAt dX5_tearsAt_16 hO_X5_tearsAt fS_5_204 ⟨Nat.le_of_ble_eq_true rfl, Nat.le_of_ble_eq_true rfl⟩ rfl rfl rfl
theorem dX5_tearsAt_19 : decode cX5_tearsAt 19 = .ok (.aload_n 0, 1) := by decide +kernel
theorem tX5_tearsAt_19 {d : Nat} {l1 l2 l3 l4 l5 : Option Value} {v0 : Value} {x : Nat} {m : jmM} {Q : Option Value → jmM → Prop} : AW d 65 19 [some (.ref x), l1, l2, l3, l4, l5] [v0] m Q ↔ AW d 65 20 [some (.ref x), l1, l2, l3, l4, l5] [.ref x, v0] m Q := A_aload_n hB_X5_tearsAt dX5_tearsAt_19 rfl
theorem dX5_tearsAt_20 : decode cX5_tearsAt 20 = .ok (.iload_n 2, 1) := by decide +kernel
theorem tX5_tearsAt_20 {d : Nat} {l0 l1 l3 l4 l5 : Option Value} {v0 v1 : Value} {x : Int32} {m : jmM} {Q : Option Value → jmM → Prop} : AW d 65 20 [l0, l1, some (.int x), l3, l4, l5] [v0, v1] m Q ↔ AW d 65 21 [l0, l1, some (.int x), l3, l4, l5] [.int x, v0, v1] m Q := A_iload_n hB_X5_tearsAt dX5_tearsAt_20 rfl
theorem dX5_tearsAt_21 : decode cX5_tearsAt 21 = .ok (.invokevirtual 204, 3) := by decide +kernel
theorem tX5_tearsAt_21 {d : Nat} {l0 l1 l2 l3 l4 l5 : Option Value} {v2 : Value} {y0 : Value} {a : Nat} {m : jmM} {Q : Option Value → jmM → Prop} : AW d 65 21 [l0, l1, l2, l3, l4, l5] [y0, .ref a, v2] m Q ↔ (mS m a).1 = 5 ∧ CC d 81 [.ref a, y0] m (jK d 65 24 [l0, l1, l2, l3, l4, l5] [v2] Q) := A_callV hB_X5_tearsAt dX5_tearsAt_21 hO_X5_tearsAt fS_5_204 ⟨Nat.le_of_ble_eq_true rfl, Nat.le_of_ble_eq_true rfl⟩ rfl rfl rfl
theorem dX5_tearsAt_24 : decode cX5_tearsAt 24 = .ok (.imul, 1) := by decide +kernel
theorem tX5_tearsAt_24 {d : Nat} {l0 l1 l2 l3 l4 l5 : Option Value} {x y : Int32} {m : jmM} {Q : Option Value → jmM → Prop} : AW d 65 24 [l0, l1, l2, l3, l4, l5] [.int y, .int x] m Q ↔ AW d 65 25 [l0, l1, l2, l3, l4, l5] [.int (x * y)] m Q := A_imul hB_X5_tearsAt dX5_tearsAt_24
theorem dX5_tearsAt_25 : decode cX5_tearsAt 25 = .ok (.bipush 10, 2) := by decide +kernel
theorem tX5_tearsAt_25 {d : Nat} {l0 l1 l2 l3 l4 l5 : Option Value} {v0 : Value} {m : jmM} {Q : Option Value → jmM → Prop} : AW d 65 25 [l0, l1, l2, l3, l4, l5] [v0] m Q ↔ AW d 65 27 [l0, l1, l2, l3, l4, l5] [.int 10, v0] m Q := A_bipush hB_X5_tearsAt dX5_tearsAt_25 rfl
theorem dX5_tearsAt_27 : decode cX5_tearsAt 27 = .ok (.idiv, 1) := by decide +kernel
theorem tX5_tearsAt_27 {d : Nat} {l0 l1 l2 l3 l4 l5 : Option Value} {x y : Int32} {m : jmM} {Q : Option Value → jmM → Prop} : AW d 65 27 [l0, l1, l2, l3, l4, l5] [.int y, .int x] m Q ↔ ¬ y = 0 ∧ AW d 65 28 [l0, l1, l2, l3, l4, l5] [.int (x / y)] m Q := A_idiv hB_X5_tearsAt dX5_tearsAt_27
theorem dX5_tearsAt_28 : decode cX5_tearsAt 28 = .ok (.istore_n 3, 1) := by decide +kernel
theorem tX5_tearsAt_28 {d : Nat} {l0 l1 l2 l3 l4 l5 : Option Value} {x : Int32} {m : jmM} {Q : Option Value → jmM → Prop} : AW d 65 28 [l0, l1, l2, l3, l4, l5] [.int x] m Q ↔ AW d 65 29 [l0, l1, jc1 l2, some (.int x), l4, l5] [] m Q := A_istore_n hB_X5_tearsAt dX5_tearsAt_28 (Nat.le_of_ble_eq_true rfl) rfl
theorem dX5_tearsAt_29 : decode cX5_tearsAt 29 = .ok (.iconst 0, 1) := by decide +kernel
theorem tX5_tearsAt_29 {d : Nat} {l0 l1 l2 l3 l4 l5 : Option Value} {m : jmM} {Q : Option Value → jmM → Prop} : AW d 65 29 [l0, l1, l2, l3, l4, l5] [] m Q ↔ AW d 65 30 [l0, l1, l2, l3, l4, l5] [.int 0] m Q := A_iconst hB_X5_tearsAt dX5_tearsAt_29 (by decide)
theorem dX5_tearsAt_30 : decode cX5_tearsAt 30 = .ok (.istore 4, 2) := by decide +kernel
theorem tX5_tearsAt_30 {d : Nat} {l0 l1 l2 l3 l4 l5 : Option Value} {x : Int32} {m : jmM} {Q : Option Value → jmM → Prop} : AW d 65 30 [l0, l1, l2, l3, l4, l5] [.int x] m Q ↔ AW d 65 32 [l0, l1, l2, jc1 l3, some (.int x), l5] [] m Q := A_istore hB_X5_tearsAt dX5_tearsAt_30 (Nat.le_of_ble_eq_true rfl) rfl
theorem dX5_tearsAt_32 : decode cX5_tearsAt 32 = .ok (.iload_n 2, 1) := by decide +kernel
theorem tX5_tearsAt_32 {d : Nat} {l0 l1 l3 l4 l5 : Option Value} {x : Int32} {m : jmM} {Q : Option Value → jmM → Prop} : AW d 65 32 [l0, l1, some (.int x), l3, l4, l5] [] m Q ↔ AW d 65 33 [l0, l1, some (.int x), l3, l4, l5] [.int x] m Q := A_iload_n hB_X5_tearsAt dX5_tearsAt_32 rfl
theorem dX5_tearsAt_33 : decode cX5_tearsAt 33 = .ok (.iconst 1, 1) := by decide +kernel
theorem tX5_tearsAt_33 {d : Nat} {l0 l1 l2 l3 l4 l5 : Option Value} {v0 : Value} {m : jmM} {Q : Option Value → jmM → Prop} : AW d 65 33 [l0, l1, l2, l3, l4, l5] [v0] m Q ↔ AW d 65 34 [l0, l1, l2, l3, l4, l5] [.int 1, v0] m Q := A_iconst hB_X5_tearsAt dX5_tearsAt_33 (by decide)
theorem dX5_tearsAt_34 : decode cX5_tearsAt 34 = .ok (.iadd, 1) := by decide +kernel
theorem tX5_tearsAt_34 {d : Nat} {l0 l1 l2 l3 l4 l5 : Option Value} {x y : Int32} {m : jmM} {Q : Option Value → jmM → Prop} : AW d 65 34 [l0, l1, l2, l3, l4, l5] [.int y, .int x] m Q ↔ AW d 65 35 [l0, l1, l2, l3, l4, l5] [.int (x + y)] m Q := A_iadd hB_X5_tearsAt dX5_tearsAt_34
theorem dX5_tearsAt_35 : decode cX5_tearsAt 35 = .ok (.istore 5, 2) := by decide +kernel
theorem tX5_tearsAt_35 {d : Nat} {l0 l1 l2 l3 l4 l5 : Option Value} {x : Int32} {m : jmM} {Q : Option Value → jmM → Prop} : AW d 65 35 [l0, l1, l2, l3, l4, l5] [.int x] m Q ↔ AW d 65 37 [l0, l1, l2, l3, jc1 l4, some (.int x)] [] m Q := A_istore hB_X5_tearsAt dX5_tearsAt_35 (Nat.le_of_ble_eq_true rfl) rfl
theorem dX5_tearsAt_37 : decode cX5_tearsAt 37 = .ok (.iload 5, 2) := by decide +kernel
theorem tX5_tearsAt_37 {d : Nat} {l0 l1 l2 l3 l4 : Option Value} {x : Int32} {m : jmM} {Q : Option Value → jmM → Prop} : AW d 65 37 [l0, l1, l2, l3, l4, some (.int x)] [] m Q ↔ AW d 65 39 [l0, l1, l2, l3, l4, some (.int x)] [.int x] m Q := A_iload hB_X5_tearsAt dX5_tearsAt_37 rfl
theorem dX5_tearsAt_39 : decode cX5_tearsAt 39 = .ok (.aload_n 0, 1) := by decide +kernel
theorem tX5_tearsAt_39 {d : Nat} {l1 l2 l3 l4 l5 : Option Value} {v0 : Value} {x : Nat} {m : jmM} {Q : Option Value → jmM → Prop} : AW d 65 39 [some (.ref x), l1, l2, l3, l4, l5] [v0] m Q ↔ AW d 65 40 [some (.ref x), l1, l2, l3, l4, l5] [.ref x, v0] m Q := A_aload_n hB_X5_tearsAt dX5_tearsAt_39 rfl
theorem dX5_tearsAt_40 : decode cX5_tearsAt 40 = .ok (.getfield 51, 3) := by decide +kernel
theorem tX5_tearsAt_40 {d : Nat} {l0 l1 l2 l3 l4 l5 : Option Value} {v1 : Value} {a : Nat} {m : jmM} {Q : Option Value → jmM → Prop} : AW d 65 40 [l0, l1, l2, l3, l4, l5] [.ref a, v1] m Q ↔ (mS m a).1 = 5 ∧ AW d 65 43 [l0, l1, l2, l3, l4, l5] [.int (mI m a 11), v1] m Q := A_getfield (f := fun m a => .int (mI m a 11)) hB_X5_tearsAt dX5_tearsAt_40 hO_X5_tearsAt fF_5_51 rfl
theorem dX5_tearsAt_43 : decode cX5_tearsAt 43 = .ok (.if_icmp .ge 30, 3) := by decide +kernel
theorem tX5_tearsAt_43 {d : Nat} {l0 l1 l2 l3 l4 l5 : Option Value} {x y : Int32} {m : jmM} {Q : Option Value → jmM → Prop} : AW d 65 43 [l0, l1, l2, l3, l4, l5] [.int y, .int x] m Q ↔ if y ≤ x then AW d 65 73 [l0, l1, l2, l3, l4, l5] [] m Q else AW d 65 46 [l0, l1, l2, l3, l4, l5] [] m Q := A_icmp_ge hB_X5_tearsAt dX5_tearsAt_43 (by decide)
theorem dX5_tearsAt_46 : decode cX5_tearsAt 46 = .ok (.iload 4, 2) := by decide +kernel
theorem tX5_tearsAt_46 {d : Nat} {l0 l1 l2 l3 l5 : Option Value} {x : Int32} {m : jmM} {Q : Option Value → jmM → Prop} : AW d 65 46 [l0, l1, l2, l3, some (.int x), l5] [] m Q ↔ AW d 65 48 [l0, l1, l2, l3, some (.int x), l5] [.int x] m Q := A_iload hB_X5_tearsAt dX5_tearsAt_46 rfl
theorem dX5_tearsAt_48 : decode cX5_tearsAt 48 = .ok (.aload_n 0, 1) := by decide +kernel
theorem tX5_tearsAt_48 {d : Nat} {l1 l2 l3 l4 l5 : Option Value} {v0 : Value} {x : Nat} {m : jmM} {Q : Option Value → jmM → Prop} : AW d 65 48 [some (.ref x), l1, l2, l3, l4, l5] [v0] m Q ↔ AW d 65 49 [some (.ref x), l1, l2, l3, l4, l5] [.ref x, v0] m Q := A_aload_n hB_X5_tearsAt dX5_tearsAt_48 rfl
theorem dX5_tearsAt_49 : decode cX5_tearsAt 49 = .ok (.getfield 64, 3) := by decide +kernel
theorem tX5_tearsAt_49 {d : Nat} {l0 l1 l2 l3 l4 l5 : Option Value} {v1 : Value} {a : Nat} {m : jmM} {Q : Option Value → jmM → Prop} : AW d 65 49 [l0, l1, l2, l3, l4, l5] [.ref a, v1] m Q ↔ (mS m a).1 = 5 ∧ AW d 65 52 [l0, l1, l2, l3, l4, l5] [va_rf (mR m a 15), v1] m Q := A_getfield (f := fun m a => va_rf (mR m a 15)) hB_X5_tearsAt dX5_tearsAt_49 hO_X5_tearsAt fF_5_64 rfl
theorem dX5_tearsAt_52 : decode cX5_tearsAt 52 = .ok (.iload 5, 2) := by decide +kernel
theorem tX5_tearsAt_52 {d : Nat} {l0 l1 l2 l3 l4 : Option Value} {v0 v1 : Value} {x : Int32} {m : jmM} {Q : Option Value → jmM → Prop} : AW d 65 52 [l0, l1, l2, l3, l4, some (.int x)] [v0, v1] m Q ↔ AW d 65 54 [l0, l1, l2, l3, l4, some (.int x)] [.int x, v0, v1] m Q := A_iload hB_X5_tearsAt dX5_tearsAt_52 rfl
theorem dX5_tearsAt_54 : decode cX5_tearsAt 54 = .ok (.iaload, 1) := by decide +kernel
theorem tX5_tearsAt_54 {d : Nat} {l0 l1 l2 l3 l4 l5 : Option Value} {v2 : Value} {i : Int32} {a : Nat} {m : jmM} {Q : Option Value → jmM → Prop} : AW d 65 54 [l0, l1, l2, l3, l4, l5] [.int i, .ref a, v2] m Q ↔ (((mS m a).1 = 20 ∨ a = jScr) ∧ jIx i (mS m a).2) ∧ AW d 65 55 [l0, l1, l2, l3, l4, l5] [.int (mI m a (jx i)), v2] m Q := A_iaload hB_X5_tearsAt dX5_tearsAt_54
theorem dX5_tearsAt_55 : decode cX5_tearsAt 55 = .ok (.iadd, 1) := by decide +kernel
theorem tX5_tearsAt_55 {d : Nat} {l0 l1 l2 l3 l4 l5 : Option Value} {x y : Int32} {m : jmM} {Q : Option Value → jmM → Prop} : AW d 65 55 [l0, l1, l2, l3, l4, l5] [.int y, .int x] m Q ↔ AW d 65 56 [l0, l1, l2, l3, l4, l5] [.int (x + y)] m Q := A_iadd hB_X5_tearsAt dX5_tearsAt_55
theorem dX5_tearsAt_56 : decode cX5_tearsAt 56 = .ok (.istore 4, 2) := by decide +kernel
theorem tX5_tearsAt_56 {d : Nat} {l0 l1 l2 l3 l4 l5 : Option Value} {x : Int32} {m : jmM} {Q : Option Value → jmM → Prop} : AW d 65 56 [l0, l1, l2, l3, l4, l5] [.int x] m Q ↔ AW d 65 58 [l0, l1, l2, jc1 l3, some (.int x), l5] [] m Q := A_istore hB_X5_tearsAt dX5_tearsAt_56 (Nat.le_of_ble_eq_true rfl) rfl
theorem dX5_tearsAt_58 : decode cX5_tearsAt 58 = .ok (.iload 4, 2) := by decide +kernel
theorem tX5_tearsAt_58 {d : Nat} {l0 l1 l2 l3 l5 : Option Value} {x : Int32} {m : jmM} {Q : Option Value → jmM → Prop} : AW d 65 58 [l0, l1, l2, l3, some (.int x), l5] [] m Q ↔ AW d 65 60 [l0, l1, l2, l3, some (.int x), l5] [.int x] m Q := A_iload hB_X5_tearsAt dX5_tearsAt_58 rfl
theorem dX5_tearsAt_60 : decode cX5_tearsAt 60 = .ok (.iload_n 3, 1) := by decide +kernel
theorem tX5_tearsAt_60 {d : Nat} {l0 l1 l2 l4 l5 : Option Value} {v0 : Value} {x : Int32} {m : jmM} {Q : Option Value → jmM → Prop} : AW d 65 60 [l0, l1, l2, some (.int x), l4, l5] [v0] m Q ↔ AW d 65 61 [l0, l1, l2, some (.int x), l4, l5] [.int x, v0] m Q := A_iload_n hB_X5_tearsAt dX5_tearsAt_60 rfl
theorem dX5_tearsAt_61 : decode cX5_tearsAt 61 = .ok (.if_icmp .le 6, 3) := by decide +kernel
theorem tX5_tearsAt_61 {d : Nat} {l0 l1 l2 l3 l4 l5 : Option Value} {x y : Int32} {m : jmM} {Q : Option Value → jmM → Prop} : AW d 65 61 [l0, l1, l2, l3, l4, l5] [.int y, .int x] m Q ↔ if x ≤ y then AW d 65 67 [l0, l1, l2, l3, l4, l5] [] m Q else AW d 65 64 [l0, l1, l2, l3, l4, l5] [] m Q := A_icmp_le hB_X5_tearsAt dX5_tearsAt_61 (by decide)
theorem dX5_tearsAt_64 : decode cX5_tearsAt 64 = .ok (.iload 5, 2) := by decide +kernel
theorem tX5_tearsAt_64 {d : Nat} {l0 l1 l2 l3 l4 : Option Value} {x : Int32} {m : jmM} {Q : Option Value → jmM → Prop} : AW d 65 64 [l0, l1, l2, l3, l4, some (.int x)] [] m Q ↔ AW d 65 66 [l0, l1, l2, l3, l4, some (.int x)] [.int x] m Q := A_iload hB_X5_tearsAt dX5_tearsAt_64 rfl
theorem dX5_tearsAt_66 : decode cX5_tearsAt 66 = .ok (.ireturn, 1) := by decide +kernel
theorem tX5_tearsAt_66 {d : Nat} {l0 l1 l2 l3 l4 l5 : Option Value} {x : Int32} {m : jmM} {Q : Option Value → jmM → Prop} : AW d 65 66 [l0, l1, l2, l3, l4, l5] [.int x] m Q ↔ Q (some (.int x)) m := A_ireturn hB_X5_tearsAt dX5_tearsAt_66 hR_X5_tearsAt
theorem dX5_tearsAt_67 : decode cX5_tearsAt 67 = .ok (.iinc 5 1, 3) := by decide +kernel
theorem tX5_tearsAt_67 {d : Nat} {l0 l1 l2 l3 l4 : Option Value} {x : Int32} {m : jmM} {Q : Option Value → jmM → Prop} : AW d 65 67 [l0, l1, l2, l3, l4, some (.int x)] [] m Q ↔ AW d 65 70 [l0, l1, l2, l3, jc1 l4, some (.int (x + 1))] [] m Q := A_iinc hB_X5_tearsAt dX5_tearsAt_67 rfl (Nat.le_of_ble_eq_true rfl) (v := 1) (by decide) rfl
theorem dX5_tearsAt_70 : decode cX5_tearsAt 70 = .ok (.goto (-33), 3) := by decide +kernel
theorem tX5_tearsAt_70 {d : Nat} {l0 l1 l2 l3 l4 l5 : Option Value} {m : jmM} {Q : Option Value → jmM → Prop} : AW d 65 70 [l0, l1, l2, l3, l4, l5] [] m Q ↔ AW d 65 37 [l0, l1, l2, l3, l4, l5] [] m Q := A_goto hB_X5_tearsAt dX5_tearsAt_70 (by decide)
theorem dX5_tearsAt_73 : decode cX5_tearsAt 73 = .ok (.bipush (-2), 2) := by decide +kernel
theorem tX5_tearsAt_73 {d : Nat} {l0 l1 l2 l3 l4 l5 : Option Value} {m : jmM} {Q : Option Value → jmM → Prop} : AW d 65 73 [l0, l1, l2, l3, l4, l5] [] m Q ↔ AW d 65 75 [l0, l1, l2, l3, l4, l5] [.int (-2)] m Q := A_bipush hB_X5_tearsAt dX5_tearsAt_73 rfl
theorem dX5_tearsAt_75 : decode cX5_tearsAt 75 = .ok (.ireturn, 1) := by decide +kernel
theorem tX5_tearsAt_75 {d : Nat} {l0 l1 l2 l3 l4 l5 : Option Value} {x : Int32} {m : jmM} {Q : Option Value → jmM → Prop} : AW d 65 75 [l0, l1, l2, l3, l4, l5] [.int x] m Q ↔ Q (some (.int x)) m := A_ireturn hB_X5_tearsAt dX5_tearsAt_75 hR_X5_tearsAt
theorem hB_X5_thinnestOfNeck : jB 66 = cX5_thinnestOfNeck := rfl
theorem hO_X5_thinnestOfNeck : jO 66 = 5 := rfl
theorem hR_X5_thinnestOfNeck : jRt 66 = (some .int) := rfl
theorem nX5_thinnestOfNeck (d : Nat) (x0 : Nat) (x1 : Int32) (m : jmM) (Q : Option Value → jmM → Prop) : CC (d + 1) 66 [.ref x0, .int x1] m Q ↔ AW d 66 0 [some (.ref x0), some (.int x1), none, none] [] m Q := CC_body (Nat.le_of_ble_eq_true rfl)
theorem dX5_thinnestOfNeck_0 : decode cX5_thinnestOfNeck 0 = .ok (.iconst (-1), 1) := by decide +kernel
theorem tX5_thinnestOfNeck_0 {d : Nat} {l0 l1 l2 l3 : Option Value} {m : jmM} {Q : Option Value → jmM → Prop} : AW d 66 0 [l0, l1, l2, l3] [] m Q ↔ AW d 66 1 [l0, l1, l2, l3] [.int (-1)] m Q := A_iconst hB_X5_thinnestOfNeck dX5_thinnestOfNeck_0 (by decide)
theorem dX5_thinnestOfNeck_1 : decode cX5_thinnestOfNeck 1 = .ok (.istore_n 2, 1) := by decide +kernel
theorem tX5_thinnestOfNeck_1 {d : Nat} {l0 l1 l2 l3 : Option Value} {x : Int32} {m : jmM} {Q : Option Value → jmM → Prop} : AW d 66 1 [l0, l1, l2, l3] [.int x] m Q ↔ AW d 66 2 [l0, jc1 l1, some (.int x), l3] [] m Q := A_istore_n hB_X5_thinnestOfNeck dX5_thinnestOfNeck_1 (Nat.le_of_ble_eq_true rfl) rfl
theorem dX5_thinnestOfNeck_2 : decode cX5_thinnestOfNeck 2 = .ok (.iconst 0, 1) := by decide +kernel
theorem tX5_thinnestOfNeck_2 {d : Nat} {l0 l1 l2 l3 : Option Value} {m : jmM} {Q : Option Value → jmM → Prop} : AW d 66 2 [l0, l1, l2, l3] [] m Q ↔ AW d 66 3 [l0, l1, l2, l3] [.int 0] m Q := A_iconst hB_X5_thinnestOfNeck dX5_thinnestOfNeck_2 (by decide)
theorem dX5_thinnestOfNeck_3 : decode cX5_thinnestOfNeck 3 = .ok (.istore_n 3, 1) := by decide +kernel
theorem tX5_thinnestOfNeck_3 {d : Nat} {l0 l1 l2 l3 : Option Value} {x : Int32} {m : jmM} {Q : Option Value → jmM → Prop} : AW d 66 3 [l0, l1, l2, l3] [.int x] m Q ↔ AW d 66 4 [l0, l1, jc1 l2, some (.int x)] [] m Q := A_istore_n hB_X5_thinnestOfNeck dX5_thinnestOfNeck_3 (Nat.le_of_ble_eq_true rfl) rfl
theorem dX5_thinnestOfNeck_4 : decode cX5_thinnestOfNeck 4 = .ok (.iload_n 3, 1) := by decide +kernel
theorem tX5_thinnestOfNeck_4 {d : Nat} {l0 l1 l2 : Option Value} {x : Int32} {m : jmM} {Q : Option Value → jmM → Prop} : AW d 66 4 [l0, l1, l2, some (.int x)] [] m Q ↔ AW d 66 5 [l0, l1, l2, some (.int x)] [.int x] m Q := A_iload_n hB_X5_thinnestOfNeck dX5_thinnestOfNeck_4 rfl
theorem dX5_thinnestOfNeck_5 : decode cX5_thinnestOfNeck 5 = .ok (.aload_n 0, 1) := by decide +kernel
theorem tX5_thinnestOfNeck_5 {d : Nat} {l1 l2 l3 : Option Value} {v0 : Value} {x : Nat} {m : jmM} {Q : Option Value → jmM → Prop} : AW d 66 5 [some (.ref x), l1, l2, l3] [v0] m Q ↔ AW d 66 6 [some (.ref x), l1, l2, l3] [.ref x, v0] m Q := A_aload_n hB_X5_thinnestOfNeck dX5_thinnestOfNeck_5 rfl
theorem dX5_thinnestOfNeck_6 : decode cX5_thinnestOfNeck 6 = .ok (.getfield 51, 3) := by decide +kernel
theorem tX5_thinnestOfNeck_6 {d : Nat} {l0 l1 l2 l3 : Option Value} {v1 : Value} {a : Nat} {m : jmM} {Q : Option Value → jmM → Prop} : AW d 66 6 [l0, l1, l2, l3] [.ref a, v1] m Q ↔ (mS m a).1 = 5 ∧ AW d 66 9 [l0, l1, l2, l3] [.int (mI m a 11), v1] m Q := A_getfield (f := fun m a => .int (mI m a 11)) hB_X5_thinnestOfNeck dX5_thinnestOfNeck_6 hO_X5_thinnestOfNeck fF_5_51 rfl
theorem dX5_thinnestOfNeck_9 : decode cX5_thinnestOfNeck 9 = .ok (.if_icmp .ge 40, 3) := by decide +kernel
theorem tX5_thinnestOfNeck_9 {d : Nat} {l0 l1 l2 l3 : Option Value} {x y : Int32} {m : jmM} {Q : Option Value → jmM → Prop} : AW d 66 9 [l0, l1, l2, l3] [.int y, .int x] m Q ↔ if y ≤ x then AW d 66 49 [l0, l1, l2, l3] [] m Q else AW d 66 12 [l0, l1, l2, l3] [] m Q := A_icmp_ge hB_X5_thinnestOfNeck dX5_thinnestOfNeck_9 (by decide)
theorem dX5_thinnestOfNeck_12 : decode cX5_thinnestOfNeck 12 = .ok (.aload_n 0, 1) := by decide +kernel
theorem tX5_thinnestOfNeck_12 {d : Nat} {l1 l2 l3 : Option Value} {x : Nat} {m : jmM} {Q : Option Value → jmM → Prop} : AW d 66 12 [some (.ref x), l1, l2, l3] [] m Q ↔ AW d 66 13 [some (.ref x), l1, l2, l3] [.ref x] m Q := A_aload_n hB_X5_thinnestOfNeck dX5_thinnestOfNeck_12 rfl
theorem dX5_thinnestOfNeck_13 : decode cX5_thinnestOfNeck 13 = .ok (.getfield 54, 3) := by decide +kernel
theorem tX5_thinnestOfNeck_13 {d : Nat} {l0 l1 l2 l3 : Option Value} {a : Nat} {m : jmM} {Q : Option Value → jmM → Prop} : AW d 66 13 [l0, l1, l2, l3] [.ref a] m Q ↔ (mS m a).1 = 5 ∧ AW d 66 16 [l0, l1, l2, l3] [va_rf (mR m a 12)] m Q := A_getfield (f := fun m a => va_rf (mR m a 12)) hB_X5_thinnestOfNeck dX5_thinnestOfNeck_13 hO_X5_thinnestOfNeck fF_5_54 rfl
theorem dX5_thinnestOfNeck_16 : decode cX5_thinnestOfNeck 16 = .ok (.iload_n 3, 1) := by decide +kernel
theorem tX5_thinnestOfNeck_16 {d : Nat} {l0 l1 l2 : Option Value} {v0 : Value} {x : Int32} {m : jmM} {Q : Option Value → jmM → Prop} : AW d 66 16 [l0, l1, l2, some (.int x)] [v0] m Q ↔ AW d 66 17 [l0, l1, l2, some (.int x)] [.int x, v0] m Q := A_iload_n hB_X5_thinnestOfNeck dX5_thinnestOfNeck_16 rfl
theorem dX5_thinnestOfNeck_17 : decode cX5_thinnestOfNeck 17 = .ok (.iaload, 1) := by decide +kernel
theorem tX5_thinnestOfNeck_17 {d : Nat} {l0 l1 l2 l3 : Option Value} {i : Int32} {a : Nat} {m : jmM} {Q : Option Value → jmM → Prop} : AW d 66 17 [l0, l1, l2, l3] [.int i, .ref a] m Q ↔ (((mS m a).1 = 20 ∨ a = jScr) ∧ jIx i (mS m a).2) ∧ AW d 66 18 [l0, l1, l2, l3] [.int (mI m a (jx i))] m Q := A_iaload hB_X5_thinnestOfNeck dX5_thinnestOfNeck_17
theorem dX5_thinnestOfNeck_18 : decode cX5_thinnestOfNeck 18 = .ok (.iload_n 1, 1) := by decide +kernel
theorem tX5_thinnestOfNeck_18 {d : Nat} {l0 l2 l3 : Option Value} {v0 : Value} {x : Int32} {m : jmM} {Q : Option Value → jmM → Prop} : AW d 66 18 [l0, some (.int x), l2, l3] [v0] m Q ↔ AW d 66 19 [l0, some (.int x), l2, l3] [.int x, v0] m Q := A_iload_n hB_X5_thinnestOfNeck dX5_thinnestOfNeck_18 rfl
theorem dX5_thinnestOfNeck_19 : decode cX5_thinnestOfNeck 19 = .ok (.if_icmp .gt 24, 3) := by decide +kernel
theorem tX5_thinnestOfNeck_19 {d : Nat} {l0 l1 l2 l3 : Option Value} {x y : Int32} {m : jmM} {Q : Option Value → jmM → Prop} : AW d 66 19 [l0, l1, l2, l3] [.int y, .int x] m Q ↔ if y < x then AW d 66 43 [l0, l1, l2, l3] [] m Q else AW d 66 22 [l0, l1, l2, l3] [] m Q := A_icmp_gt hB_X5_thinnestOfNeck dX5_thinnestOfNeck_19 (by decide)
theorem dX5_thinnestOfNeck_22 : decode cX5_thinnestOfNeck 22 = .ok (.iload_n 2, 1) := by decide +kernel
theorem tX5_thinnestOfNeck_22 {d : Nat} {l0 l1 l3 : Option Value} {x : Int32} {m : jmM} {Q : Option Value → jmM → Prop} : AW d 66 22 [l0, l1, some (.int x), l3] [] m Q ↔ AW d 66 23 [l0, l1, some (.int x), l3] [.int x] m Q := A_iload_n hB_X5_thinnestOfNeck dX5_thinnestOfNeck_22 rfl
theorem dX5_thinnestOfNeck_23 : decode cX5_thinnestOfNeck 23 = .ok (.iconst (-1), 1) := by decide +kernel
theorem tX5_thinnestOfNeck_23 {d : Nat} {l0 l1 l2 l3 : Option Value} {v0 : Value} {m : jmM} {Q : Option Value → jmM → Prop} : AW d 66 23 [l0, l1, l2, l3] [v0] m Q ↔ AW d 66 24 [l0, l1, l2, l3] [.int (-1), v0] m Q := A_iconst hB_X5_thinnestOfNeck dX5_thinnestOfNeck_23 (by decide)
theorem dX5_thinnestOfNeck_24 : decode cX5_thinnestOfNeck 24 = .ok (.if_icmp .eq 17, 3) := by decide +kernel
theorem tX5_thinnestOfNeck_24 {d : Nat} {l0 l1 l2 l3 : Option Value} {x y : Int32} {m : jmM} {Q : Option Value → jmM → Prop} : AW d 66 24 [l0, l1, l2, l3] [.int y, .int x] m Q ↔ if x = y then AW d 66 41 [l0, l1, l2, l3] [] m Q else AW d 66 27 [l0, l1, l2, l3] [] m Q := A_icmp_eq hB_X5_thinnestOfNeck dX5_thinnestOfNeck_24 (by decide)
theorem dX5_thinnestOfNeck_27 : decode cX5_thinnestOfNeck 27 = .ok (.aload_n 0, 1) := by decide +kernel
theorem tX5_thinnestOfNeck_27 {d : Nat} {l1 l2 l3 : Option Value} {x : Nat} {m : jmM} {Q : Option Value → jmM → Prop} : AW d 66 27 [some (.ref x), l1, l2, l3] [] m Q ↔ AW d 66 28 [some (.ref x), l1, l2, l3] [.ref x] m Q := A_aload_n hB_X5_thinnestOfNeck dX5_thinnestOfNeck_27 rfl
theorem dX5_thinnestOfNeck_28 : decode cX5_thinnestOfNeck 28 = .ok (.getfield 54, 3) := by decide +kernel
theorem tX5_thinnestOfNeck_28 {d : Nat} {l0 l1 l2 l3 : Option Value} {a : Nat} {m : jmM} {Q : Option Value → jmM → Prop} : AW d 66 28 [l0, l1, l2, l3] [.ref a] m Q ↔ (mS m a).1 = 5 ∧ AW d 66 31 [l0, l1, l2, l3] [va_rf (mR m a 12)] m Q := A_getfield (f := fun m a => va_rf (mR m a 12)) hB_X5_thinnestOfNeck dX5_thinnestOfNeck_28 hO_X5_thinnestOfNeck fF_5_54 rfl
theorem dX5_thinnestOfNeck_31 : decode cX5_thinnestOfNeck 31 = .ok (.iload_n 3, 1) := by decide +kernel
theorem tX5_thinnestOfNeck_31 {d : Nat} {l0 l1 l2 : Option Value} {v0 : Value} {x : Int32} {m : jmM} {Q : Option Value → jmM → Prop} : AW d 66 31 [l0, l1, l2, some (.int x)] [v0] m Q ↔ AW d 66 32 [l0, l1, l2, some (.int x)] [.int x, v0] m Q := A_iload_n hB_X5_thinnestOfNeck dX5_thinnestOfNeck_31 rfl
theorem dX5_thinnestOfNeck_32 : decode cX5_thinnestOfNeck 32 = .ok (.iaload, 1) := by decide +kernel
theorem tX5_thinnestOfNeck_32 {d : Nat} {l0 l1 l2 l3 : Option Value} {i : Int32} {a : Nat} {m : jmM} {Q : Option Value → jmM → Prop} : AW d 66 32 [l0, l1, l2, l3] [.int i, .ref a] m Q ↔ (((mS m a).1 = 20 ∨ a = jScr) ∧ jIx i (mS m a).2) ∧ AW d 66 33 [l0, l1, l2, l3] [.int (mI m a (jx i))] m Q := A_iaload hB_X5_thinnestOfNeck dX5_thinnestOfNeck_32
theorem dX5_thinnestOfNeck_33 : decode cX5_thinnestOfNeck 33 = .ok (.aload_n 0, 1) := by decide +kernel
theorem tX5_thinnestOfNeck_33 {d : Nat} {l1 l2 l3 : Option Value} {v0 : Value} {x : Nat} {m : jmM} {Q : Option Value → jmM → Prop} : AW d 66 33 [some (.ref x), l1, l2, l3] [v0] m Q ↔ AW d 66 34 [some (.ref x), l1, l2, l3] [.ref x, v0] m Q := A_aload_n hB_X5_thinnestOfNeck dX5_thinnestOfNeck_33 rfl
theorem dX5_thinnestOfNeck_34 : decode cX5_thinnestOfNeck 34 = .ok (.iload_n 2, 1) := by decide +kernel
theorem tX5_thinnestOfNeck_34 {d : Nat} {l0 l1 l3 : Option Value} {v0 v1 : Value} {x : Int32} {m : jmM} {Q : Option Value → jmM → Prop} : AW d 66 34 [l0, l1, some (.int x), l3] [v0, v1] m Q ↔ AW d 66 35 [l0, l1, some (.int x), l3] [.int x, v0, v1] m Q := A_iload_n hB_X5_thinnestOfNeck dX5_thinnestOfNeck_34 rfl
theorem dX5_thinnestOfNeck_35 : decode cX5_thinnestOfNeck 35 = .ok (.invokevirtual 204, 3) := by decide +kernel
theorem tX5_thinnestOfNeck_35 {d : Nat} {l0 l1 l2 l3 : Option Value} {v2 : Value} {y0 : Value} {a : Nat} {m : jmM} {Q : Option Value → jmM → Prop} : AW d 66 35 [l0, l1, l2, l3] [y0, .ref a, v2] m Q ↔ (mS m a).1 = 5 ∧ CC d 81 [.ref a, y0] m (jK d 66 38 [l0, l1, l2, l3] [v2] Q) := A_callV hB_X5_thinnestOfNeck dX5_thinnestOfNeck_35 hO_X5_thinnestOfNeck fS_5_204 ⟨Nat.le_of_ble_eq_true rfl, Nat.le_of_ble_eq_true rfl⟩ rfl rfl rfl
theorem dX5_thinnestOfNeck_38 : decode cX5_thinnestOfNeck 38 = .ok (.if_icmp .ge 5, 3) := by decide +kernel
theorem tX5_thinnestOfNeck_38 {d : Nat} {l0 l1 l2 l3 : Option Value} {x y : Int32} {m : jmM} {Q : Option Value → jmM → Prop} : AW d 66 38 [l0, l1, l2, l3] [.int y, .int x] m Q ↔ if y ≤ x then AW d 66 43 [l0, l1, l2, l3] [] m Q else AW d 66 41 [l0, l1, l2, l3] [] m Q := A_icmp_ge hB_X5_thinnestOfNeck dX5_thinnestOfNeck_38 (by decide)
theorem dX5_thinnestOfNeck_41 : decode cX5_thinnestOfNeck 41 = .ok (.iload_n 3, 1) := by decide +kernel
theorem tX5_thinnestOfNeck_41 {d : Nat} {l0 l1 l2 : Option Value} {x : Int32} {m : jmM} {Q : Option Value → jmM → Prop} : AW d 66 41 [l0, l1, l2, some (.int x)] [] m Q ↔ AW d 66 42 [l0, l1, l2, some (.int x)] [.int x] m Q := A_iload_n hB_X5_thinnestOfNeck dX5_thinnestOfNeck_41 rfl
theorem dX5_thinnestOfNeck_42 : decode cX5_thinnestOfNeck 42 = .ok (.istore_n 2, 1) := by decide +kernel
theorem tX5_thinnestOfNeck_42 {d : Nat} {l0 l1 l2 l3 : Option Value} {x : Int32} {m : jmM} {Q : Option Value → jmM → Prop} : AW d 66 42 [l0, l1, l2, l3] [.int x] m Q ↔ AW d 66 43 [l0, jc1 l1, some (.int x), l3] [] m Q := A_istore_n hB_X5_thinnestOfNeck dX5_thinnestOfNeck_42 (Nat.le_of_ble_eq_true rfl) rfl
theorem dX5_thinnestOfNeck_43 : decode cX5_thinnestOfNeck 43 = .ok (.iinc 3 1, 3) := by decide +kernel
theorem tX5_thinnestOfNeck_43 {d : Nat} {l0 l1 l2 : Option Value} {x : Int32} {m : jmM} {Q : Option Value → jmM → Prop} : AW d 66 43 [l0, l1, l2, some (.int x)] [] m Q ↔ AW d 66 46 [l0, l1, jc1 l2, some (.int (x + 1))] [] m Q := A_iinc hB_X5_thinnestOfNeck dX5_thinnestOfNeck_43 rfl (Nat.le_of_ble_eq_true rfl) (v := 1) (by decide) rfl
theorem dX5_thinnestOfNeck_46 : decode cX5_thinnestOfNeck 46 = .ok (.goto (-42), 3) := by decide +kernel
theorem tX5_thinnestOfNeck_46 {d : Nat} {l0 l1 l2 l3 : Option Value} {m : jmM} {Q : Option Value → jmM → Prop} : AW d 66 46 [l0, l1, l2, l3] [] m Q ↔ AW d 66 4 [l0, l1, l2, l3] [] m Q := A_goto hB_X5_thinnestOfNeck dX5_thinnestOfNeck_46 (by decide)
theorem dX5_thinnestOfNeck_49 : decode cX5_thinnestOfNeck 49 = .ok (.iload_n 2, 1) := by decide +kernel
theorem tX5_thinnestOfNeck_49 {d : Nat} {l0 l1 l3 : Option Value} {x : Int32} {m : jmM} {Q : Option Value → jmM → Prop} : AW d 66 49 [l0, l1, some (.int x), l3] [] m Q ↔ AW d 66 50 [l0, l1, some (.int x), l3] [.int x] m Q := A_iload_n hB_X5_thinnestOfNeck dX5_thinnestOfNeck_49 rfl
theorem dX5_thinnestOfNeck_50 : decode cX5_thinnestOfNeck 50 = .ok (.ireturn, 1) := by decide +kernel
theorem tX5_thinnestOfNeck_50 {d : Nat} {l0 l1 l2 l3 : Option Value} {x : Int32} {m : jmM} {Q : Option Value → jmM → Prop} : AW d 66 50 [l0, l1, l2, l3] [.int x] m Q ↔ Q (some (.int x)) m := A_ireturn hB_X5_thinnestOfNeck dX5_thinnestOfNeck_50 hR_X5_thinnestOfNeck
theorem hB_X5_kindOf : jB 67 = cX5_kindOf := rfl
theorem hO_X5_kindOf : jO 67 = 5 := rfl
theorem hR_X5_kindOf : jRt 67 = (some .int) := rfl
theorem nX5_kindOf (d : Nat) (x0 : Nat) (x1 : Int32) (x2 : Int32) (m : jmM) (Q : Option Value → jmM → Prop) : CC (d + 1) 67 [.ref x0, .int x1, .int x2] m Q ↔ AW d 67 0 [some (.ref x0), some (.int x1), some (.int x2), none] [] m Q := CC_body (Nat.le_of_ble_eq_true rfl)
theorem dX5_kindOf_0 : decode cX5_kindOf 0 = .ok (.aload_n 0, 1) := by decide +kernel
theorem tX5_kindOf_0 {d : Nat} {l1 l2 l3 : Option Value} {x : Nat} {m : jmM} {Q : Option Value → jmM → Prop} : AW d 67 0 [some (.ref x), l1, l2, l3] [] m Q ↔ AW d 67 1 [some (.ref x), l1, l2, l3] [.ref x] m Q := A_aload_n hB_X5_kindOf dX5_kindOf_0 rfl
theorem dX5_kindOf_1 : decode cX5_kindOf 1 = .ok (.iload_n 1, 1) := by decide +kernel
theorem tX5_kindOf_1 {d : Nat} {l0 l2 l3 : Option Value} {v0 : Value} {x : Int32} {m : jmM} {Q : Option Value → jmM → Prop} : AW d 67 1 [l0, some (.int x), l2, l3] [v0] m Q ↔ AW d 67 2 [l0, some (.int x), l2, l3] [.int x, v0] m Q := A_iload_n hB_X5_kindOf dX5_kindOf_1 rfl
theorem dX5_kindOf_2 : decode cX5_kindOf 2 = .ok (.invokevirtual 204, 3) := by decide +kernel
theorem tX5_kindOf_2 {d : Nat} {l0 l1 l2 l3 : Option Value} {y0 : Value} {a : Nat} {m : jmM} {Q : Option Value → jmM → Prop} : AW d 67 2 [l0, l1, l2, l3] [y0, .ref a] m Q ↔ (mS m a).1 = 5 ∧ CC d 81 [.ref a, y0] m (jK d 67 5 [l0, l1, l2, l3] [] Q) := A_callV hB_X5_kindOf dX5_kindOf_2 hO_X5_kindOf fS_5_204 ⟨Nat.le_of_ble_eq_true rfl, Nat.le_of_ble_eq_true rfl⟩ rfl rfl rfl
theorem dX5_kindOf_5 : decode cX5_kindOf 5 = .ok (.iload_n 2, 1) := by decide +kernel
theorem tX5_kindOf_5 {d : Nat} {l0 l1 l3 : Option Value} {v0 : Value} {x : Int32} {m : jmM} {Q : Option Value → jmM → Prop} : AW d 67 5 [l0, l1, some (.int x), l3] [v0] m Q ↔ AW d 67 6 [l0, l1, some (.int x), l3] [.int x, v0] m Q := A_iload_n hB_X5_kindOf dX5_kindOf_5 rfl
theorem dX5_kindOf_6 : decode cX5_kindOf 6 = .ok (.if_icmp .gt 5, 3) := by decide +kernel
theorem tX5_kindOf_6 {d : Nat} {l0 l1 l2 l3 : Option Value} {x y : Int32} {m : jmM} {Q : Option Value → jmM → Prop} : AW d 67 6 [l0, l1, l2, l3] [.int y, .int x] m Q ↔ if y < x then AW d 67 11 [l0, l1, l2, l3] [] m Q else AW d 67 9 [l0, l1, l2, l3] [] m Q := A_icmp_gt hB_X5_kindOf dX5_kindOf_6 (by decide)
theorem dX5_kindOf_9 : decode cX5_kindOf 9 = .ok (.iconst 0, 1) := by decide +kernel
theorem tX5_kindOf_9 {d : Nat} {l0 l1 l2 l3 : Option Value} {m : jmM} {Q : Option Value → jmM → Prop} : AW d 67 9 [l0, l1, l2, l3] [] m Q ↔ AW d 67 10 [l0, l1, l2, l3] [.int 0] m Q := A_iconst hB_X5_kindOf dX5_kindOf_9 (by decide)
theorem dX5_kindOf_10 : decode cX5_kindOf 10 = .ok (.ireturn, 1) := by decide +kernel
theorem tX5_kindOf_10 {d : Nat} {l0 l1 l2 l3 : Option Value} {x : Int32} {m : jmM} {Q : Option Value → jmM → Prop} : AW d 67 10 [l0, l1, l2, l3] [.int x] m Q ↔ Q (some (.int x)) m := A_ireturn hB_X5_kindOf dX5_kindOf_10 hR_X5_kindOf
theorem dX5_kindOf_11 : decode cX5_kindOf 11 = .ok (.aload_n 0, 1) := by decide +kernel
theorem tX5_kindOf_11 {d : Nat} {l1 l2 l3 : Option Value} {x : Nat} {m : jmM} {Q : Option Value → jmM → Prop} : AW d 67 11 [some (.ref x), l1, l2, l3] [] m Q ↔ AW d 67 12 [some (.ref x), l1, l2, l3] [.ref x] m Q := A_aload_n hB_X5_kindOf dX5_kindOf_11 rfl
theorem dX5_kindOf_12 : decode cX5_kindOf 12 = .ok (.iload_n 1, 1) := by decide +kernel
theorem tX5_kindOf_12 {d : Nat} {l0 l2 l3 : Option Value} {v0 : Value} {x : Int32} {m : jmM} {Q : Option Value → jmM → Prop} : AW d 67 12 [l0, some (.int x), l2, l3] [v0] m Q ↔ AW d 67 13 [l0, some (.int x), l2, l3] [.int x, v0] m Q := A_iload_n hB_X5_kindOf dX5_kindOf_12 rfl
theorem dX5_kindOf_13 : decode cX5_kindOf 13 = .ok (.iload_n 2, 1) := by decide +kernel
theorem tX5_kindOf_13 {d : Nat} {l0 l1 l3 : Option Value} {v0 v1 : Value} {x : Int32} {m : jmM} {Q : Option Value → jmM → Prop} : AW d 67 13 [l0, l1, some (.int x), l3] [v0, v1] m Q ↔ AW d 67 14 [l0, l1, some (.int x), l3] [.int x, v0, v1] m Q := A_iload_n hB_X5_kindOf dX5_kindOf_13 rfl
theorem dX5_kindOf_14 : decode cX5_kindOf 14 = .ok (.invokevirtual 219, 3) := by decide +kernel
theorem tX5_kindOf_14 {d : Nat} {l0 l1 l2 l3 : Option Value} {y0 y1 : Value} {a : Nat} {m : jmM} {Q : Option Value → jmM → Prop} : AW d 67 14 [l0, l1, l2, l3] [y0, y1, .ref a] m Q ↔ (mS m a).1 = 5 ∧ CC d 68 [.ref a, y1, y0] m (jK d 67 17 [l0, l1, l2, l3] [] Q) := A_callV hB_X5_kindOf dX5_kindOf_14 hO_X5_kindOf fS_5_219 ⟨Nat.le_of_ble_eq_true rfl, Nat.le_of_ble_eq_true rfl⟩ rfl rfl rfl
theorem dX5_kindOf_17 : decode cX5_kindOf 17 = .ok (.ifCond .eq 5, 3) := by decide +kernel
theorem tX5_kindOf_17 {d : Nat} {l0 l1 l2 l3 : Option Value} {x : Int32} {m : jmM} {Q : Option Value → jmM → Prop} : AW d 67 17 [l0, l1, l2, l3] [.int x] m Q ↔ if x = 0 then AW d 67 22 [l0, l1, l2, l3] [] m Q else AW d 67 20 [l0, l1, l2, l3] [] m Q := A_if_eq hB_X5_kindOf dX5_kindOf_17 (by decide)
theorem dX5_kindOf_20 : decode cX5_kindOf 20 = .ok (.iconst 2, 1) := by decide +kernel
theorem tX5_kindOf_20 {d : Nat} {l0 l1 l2 l3 : Option Value} {m : jmM} {Q : Option Value → jmM → Prop} : AW d 67 20 [l0, l1, l2, l3] [] m Q ↔ AW d 67 21 [l0, l1, l2, l3] [.int 2] m Q := A_iconst hB_X5_kindOf dX5_kindOf_20 (by decide)
theorem dX5_kindOf_21 : decode cX5_kindOf 21 = .ok (.ireturn, 1) := by decide +kernel
theorem tX5_kindOf_21 {d : Nat} {l0 l1 l2 l3 : Option Value} {x : Int32} {m : jmM} {Q : Option Value → jmM → Prop} : AW d 67 21 [l0, l1, l2, l3] [.int x] m Q ↔ Q (some (.int x)) m := A_ireturn hB_X5_kindOf dX5_kindOf_21 hR_X5_kindOf
theorem dX5_kindOf_22 : decode cX5_kindOf 22 = .ok (.iconst 0, 1) := by decide +kernel
theorem tX5_kindOf_22 {d : Nat} {l0 l1 l2 l3 : Option Value} {m : jmM} {Q : Option Value → jmM → Prop} : AW d 67 22 [l0, l1, l2, l3] [] m Q ↔ AW d 67 23 [l0, l1, l2, l3] [.int 0] m Q := A_iconst hB_X5_kindOf dX5_kindOf_22 (by decide)
theorem dX5_kindOf_23 : decode cX5_kindOf 23 = .ok (.istore_n 3, 1) := by decide +kernel
theorem tX5_kindOf_23 {d : Nat} {l0 l1 l2 l3 : Option Value} {x : Int32} {m : jmM} {Q : Option Value → jmM → Prop} : AW d 67 23 [l0, l1, l2, l3] [.int x] m Q ↔ AW d 67 24 [l0, l1, jc1 l2, some (.int x)] [] m Q := A_istore_n hB_X5_kindOf dX5_kindOf_23 (Nat.le_of_ble_eq_true rfl) rfl
theorem dX5_kindOf_24 : decode cX5_kindOf 24 = .ok (.iload_n 3, 1) := by decide +kernel
theorem tX5_kindOf_24 {d : Nat} {l0 l1 l2 : Option Value} {x : Int32} {m : jmM} {Q : Option Value → jmM → Prop} : AW d 67 24 [l0, l1, l2, some (.int x)] [] m Q ↔ AW d 67 25 [l0, l1, l2, some (.int x)] [.int x] m Q := A_iload_n hB_X5_kindOf dX5_kindOf_24 rfl
theorem dX5_kindOf_25 : decode cX5_kindOf 25 = .ok (.iload_n 1, 1) := by decide +kernel
theorem tX5_kindOf_25 {d : Nat} {l0 l2 l3 : Option Value} {v0 : Value} {x : Int32} {m : jmM} {Q : Option Value → jmM → Prop} : AW d 67 25 [l0, some (.int x), l2, l3] [v0] m Q ↔ AW d 67 26 [l0, some (.int x), l2, l3] [.int x, v0] m Q := A_iload_n hB_X5_kindOf dX5_kindOf_25 rfl
theorem dX5_kindOf_26 : decode cX5_kindOf 26 = .ok (.if_icmp .ge 20, 3) := by decide +kernel
theorem tX5_kindOf_26 {d : Nat} {l0 l1 l2 l3 : Option Value} {x y : Int32} {m : jmM} {Q : Option Value → jmM → Prop} : AW d 67 26 [l0, l1, l2, l3] [.int y, .int x] m Q ↔ if y ≤ x then AW d 67 46 [l0, l1, l2, l3] [] m Q else AW d 67 29 [l0, l1, l2, l3] [] m Q := A_icmp_ge hB_X5_kindOf dX5_kindOf_26 (by decide)
theorem dX5_kindOf_29 : decode cX5_kindOf 29 = .ok (.aload_n 0, 1) := by decide +kernel
theorem tX5_kindOf_29 {d : Nat} {l1 l2 l3 : Option Value} {x : Nat} {m : jmM} {Q : Option Value → jmM → Prop} : AW d 67 29 [some (.ref x), l1, l2, l3] [] m Q ↔ AW d 67 30 [some (.ref x), l1, l2, l3] [.ref x] m Q := A_aload_n hB_X5_kindOf dX5_kindOf_29 rfl
theorem dX5_kindOf_30 : decode cX5_kindOf 30 = .ok (.iload_n 3, 1) := by decide +kernel
theorem tX5_kindOf_30 {d : Nat} {l0 l1 l2 : Option Value} {v0 : Value} {x : Int32} {m : jmM} {Q : Option Value → jmM → Prop} : AW d 67 30 [l0, l1, l2, some (.int x)] [v0] m Q ↔ AW d 67 31 [l0, l1, l2, some (.int x)] [.int x, v0] m Q := A_iload_n hB_X5_kindOf dX5_kindOf_30 rfl
theorem dX5_kindOf_31 : decode cX5_kindOf 31 = .ok (.iload_n 2, 1) := by decide +kernel
theorem tX5_kindOf_31 {d : Nat} {l0 l1 l3 : Option Value} {v0 v1 : Value} {x : Int32} {m : jmM} {Q : Option Value → jmM → Prop} : AW d 67 31 [l0, l1, some (.int x), l3] [v0, v1] m Q ↔ AW d 67 32 [l0, l1, some (.int x), l3] [.int x, v0, v1] m Q := A_iload_n hB_X5_kindOf dX5_kindOf_31 rfl
theorem dX5_kindOf_32 : decode cX5_kindOf 32 = .ok (.invokevirtual 219, 3) := by decide +kernel
theorem tX5_kindOf_32 {d : Nat} {l0 l1 l2 l3 : Option Value} {y0 y1 : Value} {a : Nat} {m : jmM} {Q : Option Value → jmM → Prop} : AW d 67 32 [l0, l1, l2, l3] [y0, y1, .ref a] m Q ↔ (mS m a).1 = 5 ∧ CC d 68 [.ref a, y1, y0] m (jK d 67 35 [l0, l1, l2, l3] [] Q) := A_callV hB_X5_kindOf dX5_kindOf_32 hO_X5_kindOf fS_5_219 ⟨Nat.le_of_ble_eq_true rfl, Nat.le_of_ble_eq_true rfl⟩ rfl rfl rfl
theorem dX5_kindOf_35 : decode cX5_kindOf 35 = .ok (.ifCond .eq 5, 3) := by decide +kernel
theorem tX5_kindOf_35 {d : Nat} {l0 l1 l2 l3 : Option Value} {x : Int32} {m : jmM} {Q : Option Value → jmM → Prop} : AW d 67 35 [l0, l1, l2, l3] [.int x] m Q ↔ if x = 0 then AW d 67 40 [l0, l1, l2, l3] [] m Q else AW d 67 38 [l0, l1, l2, l3] [] m Q := A_if_eq hB_X5_kindOf dX5_kindOf_35 (by decide)
theorem dX5_kindOf_38 : decode cX5_kindOf 38 = .ok (.iconst 3, 1) := by decide +kernel
theorem tX5_kindOf_38 {d : Nat} {l0 l1 l2 l3 : Option Value} {m : jmM} {Q : Option Value → jmM → Prop} : AW d 67 38 [l0, l1, l2, l3] [] m Q ↔ AW d 67 39 [l0, l1, l2, l3] [.int 3] m Q := A_iconst hB_X5_kindOf dX5_kindOf_38 (by decide)
theorem dX5_kindOf_39 : decode cX5_kindOf 39 = .ok (.ireturn, 1) := by decide +kernel
theorem tX5_kindOf_39 {d : Nat} {l0 l1 l2 l3 : Option Value} {x : Int32} {m : jmM} {Q : Option Value → jmM → Prop} : AW d 67 39 [l0, l1, l2, l3] [.int x] m Q ↔ Q (some (.int x)) m := A_ireturn hB_X5_kindOf dX5_kindOf_39 hR_X5_kindOf
theorem dX5_kindOf_40 : decode cX5_kindOf 40 = .ok (.iinc 3 1, 3) := by decide +kernel
theorem tX5_kindOf_40 {d : Nat} {l0 l1 l2 : Option Value} {x : Int32} {m : jmM} {Q : Option Value → jmM → Prop} : AW d 67 40 [l0, l1, l2, some (.int x)] [] m Q ↔ AW d 67 43 [l0, l1, jc1 l2, some (.int (x + 1))] [] m Q := A_iinc hB_X5_kindOf dX5_kindOf_40 rfl (Nat.le_of_ble_eq_true rfl) (v := 1) (by decide) rfl
theorem dX5_kindOf_43 : decode cX5_kindOf 43 = .ok (.goto (-19), 3) := by decide +kernel
theorem tX5_kindOf_43 {d : Nat} {l0 l1 l2 l3 : Option Value} {m : jmM} {Q : Option Value → jmM → Prop} : AW d 67 43 [l0, l1, l2, l3] [] m Q ↔ AW d 67 24 [l0, l1, l2, l3] [] m Q := A_goto hB_X5_kindOf dX5_kindOf_43 (by decide)
theorem dX5_kindOf_46 : decode cX5_kindOf 46 = .ok (.iconst 1, 1) := by decide +kernel
theorem tX5_kindOf_46 {d : Nat} {l0 l1 l2 l3 : Option Value} {m : jmM} {Q : Option Value → jmM → Prop} : AW d 67 46 [l0, l1, l2, l3] [] m Q ↔ AW d 67 47 [l0, l1, l2, l3] [.int 1] m Q := A_iconst hB_X5_kindOf dX5_kindOf_46 (by decide)
theorem dX5_kindOf_47 : decode cX5_kindOf 47 = .ok (.ireturn, 1) := by decide +kernel
theorem tX5_kindOf_47 {d : Nat} {l0 l1 l2 l3 : Option Value} {x : Int32} {m : jmM} {Q : Option Value → jmM → Prop} : AW d 67 47 [l0, l1, l2, l3] [.int x] m Q ↔ Q (some (.int x)) m := A_ireturn hB_X5_kindOf dX5_kindOf_47 hR_X5_kindOf
theorem hB_X5_isBody : jB 68 = cX5_isBody := rfl
theorem hO_X5_isBody : jO 68 = 5 := rfl
theorem hR_X5_isBody : jRt 68 = (some .boolean) := rfl
theorem nX5_isBody (d : Nat) (x0 : Nat) (x1 : Int32) (x2 : Int32) (m : jmM) (Q : Option Value → jmM → Prop) : CC (d + 1) 68 [.ref x0, .int x1, .int x2] m Q ↔ AW d 68 0 [some (.ref x0), some (.int x1), some (.int x2)] [] m Q := CC_body (Nat.le_of_ble_eq_true rfl)
theorem dX5_isBody_0 : decode cX5_isBody 0 = .ok (.aload_n 0, 1) := by decide +kernel
theorem tX5_isBody_0 {d : Nat} {l1 l2 : Option Value} {x : Nat} {m : jmM} {Q : Option Value → jmM → Prop} : AW d 68 0 [some (.ref x), l1, l2] [] m Q ↔ AW d 68 1 [some (.ref x), l1, l2] [.ref x] m Q := A_aload_n hB_X5_isBody dX5_isBody_0 rfl
theorem dX5_isBody_1 : decode cX5_isBody 1 = .ok (.iload_n 1, 1) := by decide +kernel
theorem tX5_isBody_1 {d : Nat} {l0 l2 : Option Value} {v0 : Value} {x : Int32} {m : jmM} {Q : Option Value → jmM → Prop} : AW d 68 1 [l0, some (.int x), l2] [v0] m Q ↔ AW d 68 2 [l0, some (.int x), l2] [.int x, v0] m Q := A_iload_n hB_X5_isBody dX5_isBody_1 rfl
theorem dX5_isBody_2 : decode cX5_isBody 2 = .ok (.invokevirtual 204, 3) := by decide +kernel
theorem tX5_isBody_2 {d : Nat} {l0 l1 l2 : Option Value} {y0 : Value} {a : Nat} {m : jmM} {Q : Option Value → jmM → Prop} : AW d 68 2 [l0, l1, l2] [y0, .ref a] m Q ↔ (mS m a).1 = 5 ∧ CC d 81 [.ref a, y0] m (jK d 68 5 [l0, l1, l2] [] Q) := A_callV hB_X5_isBody dX5_isBody_2 hO_X5_isBody fS_5_204 ⟨Nat.le_of_ble_eq_true rfl, Nat.le_of_ble_eq_true rfl⟩ rfl rfl rfl
theorem dX5_isBody_5 : decode cX5_isBody 5 = .ok (.iload_n 2, 1) := by decide +kernel
theorem tX5_isBody_5 {d : Nat} {l0 l1 : Option Value} {v0 : Value} {x : Int32} {m : jmM} {Q : Option Value → jmM → Prop} : AW d 68 5 [l0, l1, some (.int x)] [v0] m Q ↔ AW d 68 6 [l0, l1, some (.int x)] [.int x, v0] m Q := A_iload_n hB_X5_isBody dX5_isBody_5 rfl
theorem dX5_isBody_6 : decode cX5_isBody 6 = .ok (.if_icmp .le 36, 3) := by decide +kernel
theorem tX5_isBody_6 {d : Nat} {l0 l1 l2 : Option Value} {x y : Int32} {m : jmM} {Q : Option Value → jmM → Prop} : AW d 68 6 [l0, l1, l2] [.int y, .int x] m Q ↔ if x ≤ y then AW d 68 42 [l0, l1, l2] [] m Q else AW d 68 9 [l0, l1, l2] [] m Q := A_icmp_le hB_X5_isBody dX5_isBody_6 (by decide)
theorem dX5_isBody_9 : decode cX5_isBody 9 = .ok (.aload_n 0, 1) := by decide +kernel
theorem tX5_isBody_9 {d : Nat} {l1 l2 : Option Value} {x : Nat} {m : jmM} {Q : Option Value → jmM → Prop} : AW d 68 9 [some (.ref x), l1, l2] [] m Q ↔ AW d 68 10 [some (.ref x), l1, l2] [.ref x] m Q := A_aload_n hB_X5_isBody dX5_isBody_9 rfl
theorem dX5_isBody_10 : decode cX5_isBody 10 = .ok (.iload_n 1, 1) := by decide +kernel
theorem tX5_isBody_10 {d : Nat} {l0 l2 : Option Value} {v0 : Value} {x : Int32} {m : jmM} {Q : Option Value → jmM → Prop} : AW d 68 10 [l0, some (.int x), l2] [v0] m Q ↔ AW d 68 11 [l0, some (.int x), l2] [.int x, v0] m Q := A_iload_n hB_X5_isBody dX5_isBody_10 rfl
theorem dX5_isBody_11 : decode cX5_isBody 11 = .ok (.invokevirtual 204, 3) := by decide +kernel
theorem tX5_isBody_11 {d : Nat} {l0 l1 l2 : Option Value} {y0 : Value} {a : Nat} {m : jmM} {Q : Option Value → jmM → Prop} : AW d 68 11 [l0, l1, l2] [y0, .ref a] m Q ↔ (mS m a).1 = 5 ∧ CC d 81 [.ref a, y0] m (jK d 68 14 [l0, l1, l2] [] Q) := A_callV hB_X5_isBody dX5_isBody_11 hO_X5_isBody fS_5_204 ⟨Nat.le_of_ble_eq_true rfl, Nat.le_of_ble_eq_true rfl⟩ rfl rfl rfl
theorem dX5_isBody_14 : decode cX5_isBody 14 = .ok (.aload_n 0, 1) := by decide +kernel
theorem tX5_isBody_14 {d : Nat} {l1 l2 : Option Value} {v0 : Value} {x : Nat} {m : jmM} {Q : Option Value → jmM → Prop} : AW d 68 14 [some (.ref x), l1, l2] [v0] m Q ↔ AW d 68 15 [some (.ref x), l1, l2] [.ref x, v0] m Q := A_aload_n hB_X5_isBody dX5_isBody_14 rfl
theorem dX5_isBody_15 : decode cX5_isBody 15 = .ok (.getfield 12, 3) := by decide +kernel
theorem tX5_isBody_15 {d : Nat} {l0 l1 l2 : Option Value} {v1 : Value} {a : Nat} {m : jmM} {Q : Option Value → jmM → Prop} : AW d 68 15 [l0, l1, l2] [.ref a, v1] m Q ↔ (mS m a).1 = 5 ∧ AW d 68 18 [l0, l1, l2] [va_rf (mR m a 0), v1] m Q := A_getfield (f := fun m a => va_rf (mR m a 0)) hB_X5_isBody dX5_isBody_15 hO_X5_isBody fF_5_12 rfl
theorem dX5_isBody_18 : decode cX5_isBody 18 = .ok (.invokevirtual 106, 3) := by decide +kernel
theorem tX5_isBody_18 {d : Nat} {l0 l1 l2 : Option Value} {v1 : Value} {a : Nat} {m : jmM} {Q : Option Value → jmM → Prop} : AW d 68 18 [l0, l1, l2] [.ref a, v1] m Q ↔ (mS m a).1 = 8 ∧ CC d 123 [.ref a] m (jK d 68 21 [l0, l1, l2] [v1] Q) := A_callV hB_X5_isBody dX5_isBody_18 hO_X5_isBody fS_5_106 ⟨Nat.le_of_ble_eq_true rfl, Nat.le_of_ble_eq_true rfl⟩ rfl rfl rfl
theorem dX5_isBody_21 : decode cX5_isBody 21 = .ok (.isub, 1) := by decide +kernel
theorem tX5_isBody_21 {d : Nat} {l0 l1 l2 : Option Value} {x y : Int32} {m : jmM} {Q : Option Value → jmM → Prop} : AW d 68 21 [l0, l1, l2] [.int y, .int x] m Q ↔ AW d 68 22 [l0, l1, l2] [.int (x - y)] m Q := A_isub hB_X5_isBody dX5_isBody_21
theorem dX5_isBody_22 : decode cX5_isBody 22 = .ok (.invokestatic 109, 3) := by decide +kernel
theorem tX5_isBody_22 {d : Nat} {l0 l1 l2 : Option Value} {x : Int32} {m : jmM} {Q : Option Value → jmM → Prop} : AW d 68 22 [l0, l1, l2] [.int x] m Q ↔ AW d 68 25 [l0, l1, l2] [.int (if 0 ≤ x then x else 0 - x)] m Q := A_abs hB_X5_isBody dX5_isBody_22 hO_X5_isBody fS_5_109 (Nat.le_of_ble_eq_true rfl)
theorem dX5_isBody_25 : decode cX5_isBody 25 = .ok (.aload_n 0, 1) := by decide +kernel
theorem tX5_isBody_25 {d : Nat} {l1 l2 : Option Value} {v0 : Value} {x : Nat} {m : jmM} {Q : Option Value → jmM → Prop} : AW d 68 25 [some (.ref x), l1, l2] [v0] m Q ↔ AW d 68 26 [some (.ref x), l1, l2] [.ref x, v0] m Q := A_aload_n hB_X5_isBody dX5_isBody_25 rfl
theorem dX5_isBody_26 : decode cX5_isBody 26 = .ok (.getfield 12, 3) := by decide +kernel
theorem tX5_isBody_26 {d : Nat} {l0 l1 l2 : Option Value} {v1 : Value} {a : Nat} {m : jmM} {Q : Option Value → jmM → Prop} : AW d 68 26 [l0, l1, l2] [.ref a, v1] m Q ↔ (mS m a).1 = 5 ∧ AW d 68 29 [l0, l1, l2] [va_rf (mR m a 0), v1] m Q := A_getfield (f := fun m a => va_rf (mR m a 0)) hB_X5_isBody dX5_isBody_26 hO_X5_isBody fF_5_12 rfl
theorem dX5_isBody_29 : decode cX5_isBody 29 = .ok (.invokevirtual 106, 3) := by decide +kernel
theorem tX5_isBody_29 {d : Nat} {l0 l1 l2 : Option Value} {v1 : Value} {a : Nat} {m : jmM} {Q : Option Value → jmM → Prop} : AW d 68 29 [l0, l1, l2] [.ref a, v1] m Q ↔ (mS m a).1 = 8 ∧ CC d 123 [.ref a] m (jK d 68 32 [l0, l1, l2] [v1] Q) := A_callV hB_X5_isBody dX5_isBody_29 hO_X5_isBody fS_5_106 ⟨Nat.le_of_ble_eq_true rfl, Nat.le_of_ble_eq_true rfl⟩ rfl rfl rfl
theorem dX5_isBody_32 : decode cX5_isBody 32 = .ok (.bipush 10, 2) := by decide +kernel
theorem tX5_isBody_32 {d : Nat} {l0 l1 l2 : Option Value} {v0 v1 : Value} {m : jmM} {Q : Option Value → jmM → Prop} : AW d 68 32 [l0, l1, l2] [v0, v1] m Q ↔ AW d 68 34 [l0, l1, l2] [.int 10, v0, v1] m Q := A_bipush hB_X5_isBody dX5_isBody_32 rfl
theorem dX5_isBody_34 : decode cX5_isBody 34 = .ok (.idiv, 1) := by decide +kernel
theorem tX5_isBody_34 {d : Nat} {l0 l1 l2 : Option Value} {v2 : Value} {x y : Int32} {m : jmM} {Q : Option Value → jmM → Prop} : AW d 68 34 [l0, l1, l2] [.int y, .int x, v2] m Q ↔ ¬ y = 0 ∧ AW d 68 35 [l0, l1, l2] [.int (x / y), v2] m Q := A_idiv hB_X5_isBody dX5_isBody_34
theorem dX5_isBody_35 : decode cX5_isBody 35 = .ok (.if_icmp .gt 7, 3) := by decide +kernel
theorem tX5_isBody_35 {d : Nat} {l0 l1 l2 : Option Value} {x y : Int32} {m : jmM} {Q : Option Value → jmM → Prop} : AW d 68 35 [l0, l1, l2] [.int y, .int x] m Q ↔ if y < x then AW d 68 42 [l0, l1, l2] [] m Q else AW d 68 38 [l0, l1, l2] [] m Q := A_icmp_gt hB_X5_isBody dX5_isBody_35 (by decide)
theorem dX5_isBody_38 : decode cX5_isBody 38 = .ok (.iconst 1, 1) := by decide +kernel
theorem tX5_isBody_38 {d : Nat} {l0 l1 l2 : Option Value} {m : jmM} {Q : Option Value → jmM → Prop} : AW d 68 38 [l0, l1, l2] [] m Q ↔ AW d 68 39 [l0, l1, l2] [.int 1] m Q := A_iconst hB_X5_isBody dX5_isBody_38 (by decide)
theorem dX5_isBody_39 : decode cX5_isBody 39 = .ok (.goto 4, 3) := by decide +kernel
theorem tX5_isBody_39 {d : Nat} {l0 l1 l2 : Option Value} {v0 : Value} {m : jmM} {Q : Option Value → jmM → Prop} : AW d 68 39 [l0, l1, l2] [v0] m Q ↔ AW d 68 43 [l0, l1, l2] [v0] m Q := A_goto hB_X5_isBody dX5_isBody_39 (by decide)
theorem dX5_isBody_42 : decode cX5_isBody 42 = .ok (.iconst 0, 1) := by decide +kernel
theorem tX5_isBody_42 {d : Nat} {l0 l1 l2 : Option Value} {m : jmM} {Q : Option Value → jmM → Prop} : AW d 68 42 [l0, l1, l2] [] m Q ↔ AW d 68 43 [l0, l1, l2] [.int 0] m Q := A_iconst hB_X5_isBody dX5_isBody_42 (by decide)
theorem dX5_isBody_43 : decode cX5_isBody 43 = .ok (.ireturn, 1) := by decide +kernel
theorem tX5_isBody_43 {d : Nat} {l0 l1 l2 : Option Value} {x : Int32} {m : jmM} {Q : Option Value → jmM → Prop} : AW d 68 43 [l0, l1, l2] [.int x] m Q ↔ jBool x ∧ Q (some (.int x)) m := A_zreturn hB_X5_isBody dX5_isBody_43 hR_X5_isBody
theorem hB_X5_wanderOver : jB 69 = cX5_wanderOver := rfl
theorem hO_X5_wanderOver : jO 69 = 5 := rfl
theorem hR_X5_wanderOver : jRt 69 = (some .int) := rfl
theorem nX5_wanderOver (d : Nat) (x0 : Nat) (x1 : Int32) (x2 : Int32) (m : jmM) (Q : Option Value → jmM → Prop) : CC (d + 1) 69 [.ref x0, .int x1, .int x2] m Q ↔ AW d 69 0 [some (.ref x0), some (.int x1), some (.int x2), none, none] [] m Q := CC_body (Nat.le_of_ble_eq_true rfl)
theorem dX5_wanderOver_0 : decode cX5_wanderOver 0 = .ok (.iconst 0, 1) := by decide +kernel
theorem tX5_wanderOver_0 {d : Nat} {l0 l1 l2 l3 l4 : Option Value} {m : jmM} {Q : Option Value → jmM → Prop} : AW d 69 0 [l0, l1, l2, l3, l4] [] m Q ↔ AW d 69 1 [l0, l1, l2, l3, l4] [.int 0] m Q := A_iconst hB_X5_wanderOver dX5_wanderOver_0 (by decide)
theorem dX5_wanderOver_1 : decode cX5_wanderOver 1 = .ok (.istore_n 3, 1) := by decide +kernel
theorem tX5_wanderOver_1 {d : Nat} {l0 l1 l2 l3 l4 : Option Value} {x : Int32} {m : jmM} {Q : Option Value → jmM → Prop} : AW d 69 1 [l0, l1, l2, l3, l4] [.int x] m Q ↔ AW d 69 2 [l0, l1, jc1 l2, some (.int x), l4] [] m Q := A_istore_n hB_X5_wanderOver dX5_wanderOver_1 (Nat.le_of_ble_eq_true rfl) rfl
theorem dX5_wanderOver_2 : decode cX5_wanderOver 2 = .ok (.iload_n 1, 1) := by decide +kernel
theorem tX5_wanderOver_2 {d : Nat} {l0 l2 l3 l4 : Option Value} {x : Int32} {m : jmM} {Q : Option Value → jmM → Prop} : AW d 69 2 [l0, some (.int x), l2, l3, l4] [] m Q ↔ AW d 69 3 [l0, some (.int x), l2, l3, l4] [.int x] m Q := A_iload_n hB_X5_wanderOver dX5_wanderOver_2 rfl
theorem dX5_wanderOver_3 : decode cX5_wanderOver 3 = .ok (.istore 4, 2) := by decide +kernel
theorem tX5_wanderOver_3 {d : Nat} {l0 l1 l2 l3 l4 : Option Value} {x : Int32} {m : jmM} {Q : Option Value → jmM → Prop} : AW d 69 3 [l0, l1, l2, l3, l4] [.int x] m Q ↔ AW d 69 5 [l0, l1, l2, jc1 l3, some (.int x)] [] m Q := A_istore hB_X5_wanderOver dX5_wanderOver_3 (Nat.le_of_ble_eq_true rfl) rfl
theorem dX5_wanderOver_5 : decode cX5_wanderOver 5 = .ok (.iload 4, 2) := by decide +kernel
theorem tX5_wanderOver_5 {d : Nat} {l0 l1 l2 l3 : Option Value} {x : Int32} {m : jmM} {Q : Option Value → jmM → Prop} : AW d 69 5 [l0, l1, l2, l3, some (.int x)] [] m Q ↔ AW d 69 7 [l0, l1, l2, l3, some (.int x)] [.int x] m Q := A_iload hB_X5_wanderOver dX5_wanderOver_5 rfl
theorem dX5_wanderOver_7 : decode cX5_wanderOver 7 = .ok (.iload_n 2, 1) := by decide +kernel
theorem tX5_wanderOver_7 {d : Nat} {l0 l1 l3 l4 : Option Value} {v0 : Value} {x : Int32} {m : jmM} {Q : Option Value → jmM → Prop} : AW d 69 7 [l0, l1, some (.int x), l3, l4] [v0] m Q ↔ AW d 69 8 [l0, l1, some (.int x), l3, l4] [.int x, v0] m Q := A_iload_n hB_X5_wanderOver dX5_wanderOver_7 rfl
theorem dX5_wanderOver_8 : decode cX5_wanderOver 8 = .ok (.if_icmp .gt 31, 3) := by decide +kernel
theorem tX5_wanderOver_8 {d : Nat} {l0 l1 l2 l3 l4 : Option Value} {x y : Int32} {m : jmM} {Q : Option Value → jmM → Prop} : AW d 69 8 [l0, l1, l2, l3, l4] [.int y, .int x] m Q ↔ if y < x then AW d 69 39 [l0, l1, l2, l3, l4] [] m Q else AW d 69 11 [l0, l1, l2, l3, l4] [] m Q := A_icmp_gt hB_X5_wanderOver dX5_wanderOver_8 (by decide)
theorem dX5_wanderOver_11 : decode cX5_wanderOver 11 = .ok (.iload_n 3, 1) := by decide +kernel
theorem tX5_wanderOver_11 {d : Nat} {l0 l1 l2 l4 : Option Value} {x : Int32} {m : jmM} {Q : Option Value → jmM → Prop} : AW d 69 11 [l0, l1, l2, some (.int x), l4] [] m Q ↔ AW d 69 12 [l0, l1, l2, some (.int x), l4] [.int x] m Q := A_iload_n hB_X5_wanderOver dX5_wanderOver_11 rfl
theorem dX5_wanderOver_12 : decode cX5_wanderOver 12 = .ok (.aload_n 0, 1) := by decide +kernel
theorem tX5_wanderOver_12 {d : Nat} {l1 l2 l3 l4 : Option Value} {v0 : Value} {x : Nat} {m : jmM} {Q : Option Value → jmM → Prop} : AW d 69 12 [some (.ref x), l1, l2, l3, l4] [v0] m Q ↔ AW d 69 13 [some (.ref x), l1, l2, l3, l4] [.ref x, v0] m Q := A_aload_n hB_X5_wanderOver dX5_wanderOver_12 rfl
theorem dX5_wanderOver_13 : decode cX5_wanderOver 13 = .ok (.iload 4, 2) := by decide +kernel
theorem tX5_wanderOver_13 {d : Nat} {l0 l1 l2 l3 : Option Value} {v0 v1 : Value} {x : Int32} {m : jmM} {Q : Option Value → jmM → Prop} : AW d 69 13 [l0, l1, l2, l3, some (.int x)] [v0, v1] m Q ↔ AW d 69 15 [l0, l1, l2, l3, some (.int x)] [.int x, v0, v1] m Q := A_iload hB_X5_wanderOver dX5_wanderOver_13 rfl
theorem dX5_wanderOver_15 : decode cX5_wanderOver 15 = .ok (.invokevirtual 204, 3) := by decide +kernel
theorem tX5_wanderOver_15 {d : Nat} {l0 l1 l2 l3 l4 : Option Value} {v2 : Value} {y0 : Value} {a : Nat} {m : jmM} {Q : Option Value → jmM → Prop} : AW d 69 15 [l0, l1, l2, l3, l4] [y0, .ref a, v2] m Q ↔ (mS m a).1 = 5 ∧ CC d 81 [.ref a, y0] m (jK d 69 18 [l0, l1, l2, l3, l4] [v2] Q) := A_callV hB_X5_wanderOver dX5_wanderOver_15 hO_X5_wanderOver fS_5_204 ⟨Nat.le_of_ble_eq_true rfl, Nat.le_of_ble_eq_true rfl⟩ rfl rfl rfl
theorem dX5_wanderOver_18 : decode cX5_wanderOver 18 = .ok (.aload_n 0, 1) := by decide +kernel
theorem tX5_wanderOver_18 {d : Nat} {l1 l2 l3 l4 : Option Value} {v0 v1 : Value} {x : Nat} {m : jmM} {Q : Option Value → jmM → Prop} : AW d 69 18 [some (.ref x), l1, l2, l3, l4] [v0, v1] m Q ↔ AW d 69 19 [some (.ref x), l1, l2, l3, l4] [.ref x, v0, v1] m Q := A_aload_n hB_X5_wanderOver dX5_wanderOver_18 rfl
theorem dX5_wanderOver_19 : decode cX5_wanderOver 19 = .ok (.getfield 12, 3) := by decide +kernel
theorem tX5_wanderOver_19 {d : Nat} {l0 l1 l2 l3 l4 : Option Value} {v1 v2 : Value} {a : Nat} {m : jmM} {Q : Option Value → jmM → Prop} : AW d 69 19 [l0, l1, l2, l3, l4] [.ref a, v1, v2] m Q ↔ (mS m a).1 = 5 ∧ AW d 69 22 [l0, l1, l2, l3, l4] [va_rf (mR m a 0), v1, v2] m Q := A_getfield (f := fun m a => va_rf (mR m a 0)) hB_X5_wanderOver dX5_wanderOver_19 hO_X5_wanderOver fF_5_12 rfl
theorem dX5_wanderOver_22 : decode cX5_wanderOver 22 = .ok (.invokevirtual 106, 3) := by decide +kernel
theorem tX5_wanderOver_22 {d : Nat} {l0 l1 l2 l3 l4 : Option Value} {v1 v2 : Value} {a : Nat} {m : jmM} {Q : Option Value → jmM → Prop} : AW d 69 22 [l0, l1, l2, l3, l4] [.ref a, v1, v2] m Q ↔ (mS m a).1 = 8 ∧ CC d 123 [.ref a] m (jK d 69 25 [l0, l1, l2, l3, l4] [v1, v2] Q) := A_callV hB_X5_wanderOver dX5_wanderOver_22 hO_X5_wanderOver fS_5_106 ⟨Nat.le_of_ble_eq_true rfl, Nat.le_of_ble_eq_true rfl⟩ rfl rfl rfl
theorem dX5_wanderOver_25 : decode cX5_wanderOver 25 = .ok (.isub, 1) := by decide +kernel
theorem tX5_wanderOver_25 {d : Nat} {l0 l1 l2 l3 l4 : Option Value} {v2 : Value} {x y : Int32} {m : jmM} {Q : Option Value → jmM → Prop} : AW d 69 25 [l0, l1, l2, l3, l4] [.int y, .int x, v2] m Q ↔ AW d 69 26 [l0, l1, l2, l3, l4] [.int (x - y), v2] m Q := A_isub hB_X5_wanderOver dX5_wanderOver_25
theorem dX5_wanderOver_26 : decode cX5_wanderOver 26 = .ok (.invokestatic 109, 3) := by decide +kernel
theorem tX5_wanderOver_26 {d : Nat} {l0 l1 l2 l3 l4 : Option Value} {v1 : Value} {x : Int32} {m : jmM} {Q : Option Value → jmM → Prop} : AW d 69 26 [l0, l1, l2, l3, l4] [.int x, v1] m Q ↔ AW d 69 29 [l0, l1, l2, l3, l4] [.int (if 0 ≤ x then x else 0 - x), v1] m Q := A_abs hB_X5_wanderOver dX5_wanderOver_26 hO_X5_wanderOver fS_5_109 (Nat.le_of_ble_eq_true rfl)
theorem dX5_wanderOver_29 : decode cX5_wanderOver 29 = .ok (.invokestatic 213, 3) := by decide +kernel
theorem tX5_wanderOver_29 {d : Nat} {l0 l1 l2 l3 l4 : Option Value} {x y : Int32} {m : jmM} {Q : Option Value → jmM → Prop} : AW d 69 29 [l0, l1, l2, l3, l4] [.int y, .int x] m Q ↔ AW d 69 32 [l0, l1, l2, l3, l4] [.int (if x < y then y else x)] m Q := A_max hB_X5_wanderOver dX5_wanderOver_29 hO_X5_wanderOver fS_5_213 (Nat.le_of_ble_eq_true rfl)
theorem dX5_wanderOver_32 : decode cX5_wanderOver 32 = .ok (.istore_n 3, 1) := by decide +kernel
theorem tX5_wanderOver_32 {d : Nat} {l0 l1 l2 l3 l4 : Option Value} {x : Int32} {m : jmM} {Q : Option Value → jmM → Prop} : AW d 69 32 [l0, l1, l2, l3, l4] [.int x] m Q ↔ AW d 69 33 [l0, l1, jc1 l2, some (.int x), l4] [] m Q := A_istore_n hB_X5_wanderOver dX5_wanderOver_32 (Nat.le_of_ble_eq_true rfl) rfl
theorem dX5_wanderOver_33 : decode cX5_wanderOver 33 = .ok (.iinc 4 1, 3) := by decide +kernel
theorem tX5_wanderOver_33 {d : Nat} {l0 l1 l2 l3 : Option Value} {x : Int32} {m : jmM} {Q : Option Value → jmM → Prop} : AW d 69 33 [l0, l1, l2, l3, some (.int x)] [] m Q ↔ AW d 69 36 [l0, l1, l2, jc1 l3, some (.int (x + 1))] [] m Q := A_iinc hB_X5_wanderOver dX5_wanderOver_33 rfl (Nat.le_of_ble_eq_true rfl) (v := 1) (by decide) rfl
theorem dX5_wanderOver_36 : decode cX5_wanderOver 36 = .ok (.goto (-31), 3) := by decide +kernel
theorem tX5_wanderOver_36 {d : Nat} {l0 l1 l2 l3 l4 : Option Value} {m : jmM} {Q : Option Value → jmM → Prop} : AW d 69 36 [l0, l1, l2, l3, l4] [] m Q ↔ AW d 69 5 [l0, l1, l2, l3, l4] [] m Q := A_goto hB_X5_wanderOver dX5_wanderOver_36 (by decide)
theorem dX5_wanderOver_39 : decode cX5_wanderOver 39 = .ok (.iload_n 3, 1) := by decide +kernel
theorem tX5_wanderOver_39 {d : Nat} {l0 l1 l2 l4 : Option Value} {x : Int32} {m : jmM} {Q : Option Value → jmM → Prop} : AW d 69 39 [l0, l1, l2, some (.int x), l4] [] m Q ↔ AW d 69 40 [l0, l1, l2, some (.int x), l4] [.int x] m Q := A_iload_n hB_X5_wanderOver dX5_wanderOver_39 rfl
theorem dX5_wanderOver_40 : decode cX5_wanderOver 40 = .ok (.ireturn, 1) := by decide +kernel
theorem tX5_wanderOver_40 {d : Nat} {l0 l1 l2 l3 l4 : Option Value} {x : Int32} {m : jmM} {Q : Option Value → jmM → Prop} : AW d 69 40 [l0, l1, l2, l3, l4] [.int x] m Q ↔ Q (some (.int x)) m := A_ireturn hB_X5_wanderOver dX5_wanderOver_40 hR_X5_wanderOver
theorem hB_X5_huntsOver : jB 70 = cX5_huntsOver := rfl
theorem hO_X5_huntsOver : jO 70 = 5 := rfl
theorem hR_X5_huntsOver : jRt 70 = (some .int) := rfl
theorem nX5_huntsOver (d : Nat) (x0 : Nat) (x1 : Int32) (x2 : Int32) (m : jmM) (Q : Option Value → jmM → Prop) : CC (d + 1) 70 [.ref x0, .int x1, .int x2] m Q ↔ AW d 70 0 [some (.ref x0), some (.int x1), some (.int x2), none, none, none, none] [] m Q := CC_body (Nat.le_of_ble_eq_true rfl)
theorem dX5_huntsOver_0 : decode cX5_huntsOver 0 = .ok (.iconst 0, 1) := by decide +kernel
theorem tX5_huntsOver_0 {d : Nat} {l0 l1 l2 l3 l4 l5 l6 : Option Value} {m : jmM} {Q : Option Value → jmM → Prop} : AW d 70 0 [l0, l1, l2, l3, l4, l5, l6] [] m Q ↔ AW d 70 1 [l0, l1, l2, l3, l4, l5, l6] [.int 0] m Q := A_iconst hB_X5_huntsOver dX5_huntsOver_0 (by decide)
theorem dX5_huntsOver_1 : decode cX5_huntsOver 1 = .ok (.istore_n 3, 1) := by decide +kernel
theorem tX5_huntsOver_1 {d : Nat} {l0 l1 l2 l3 l4 l5 l6 : Option Value} {x : Int32} {m : jmM} {Q : Option Value → jmM → Prop} : AW d 70 1 [l0, l1, l2, l3, l4, l5, l6] [.int x] m Q ↔ AW d 70 2 [l0, l1, jc1 l2, some (.int x), l4, l5, l6] [] m Q := A_istore_n hB_X5_huntsOver dX5_huntsOver_1 (Nat.le_of_ble_eq_true rfl) rfl
theorem dX5_huntsOver_2 : decode cX5_huntsOver 2 = .ok (.iconst 0, 1) := by decide +kernel
theorem tX5_huntsOver_2 {d : Nat} {l0 l1 l2 l3 l4 l5 l6 : Option Value} {m : jmM} {Q : Option Value → jmM → Prop} : AW d 70 2 [l0, l1, l2, l3, l4, l5, l6] [] m Q ↔ AW d 70 3 [l0, l1, l2, l3, l4, l5, l6] [.int 0] m Q := A_iconst hB_X5_huntsOver dX5_huntsOver_2 (by decide)
theorem dX5_huntsOver_3 : decode cX5_huntsOver 3 = .ok (.istore 4, 2) := by decide +kernel
theorem tX5_huntsOver_3 {d : Nat} {l0 l1 l2 l3 l4 l5 l6 : Option Value} {x : Int32} {m : jmM} {Q : Option Value → jmM → Prop} : AW d 70 3 [l0, l1, l2, l3, l4, l5, l6] [.int x] m Q ↔ AW d 70 5 [l0, l1, l2, jc1 l3, some (.int x), l5, l6] [] m Q := A_istore hB_X5_huntsOver dX5_huntsOver_3 (Nat.le_of_ble_eq_true rfl) rfl
theorem dX5_huntsOver_5 : decode cX5_huntsOver 5 = .ok (.iload_n 1, 1) := by decide +kernel
theorem tX5_huntsOver_5 {d : Nat} {l0 l2 l3 l4 l5 l6 : Option Value} {x : Int32} {m : jmM} {Q : Option Value → jmM → Prop} : AW d 70 5 [l0, some (.int x), l2, l3, l4, l5, l6] [] m Q ↔ AW d 70 6 [l0, some (.int x), l2, l3, l4, l5, l6] [.int x] m Q := A_iload_n hB_X5_huntsOver dX5_huntsOver_5 rfl
theorem dX5_huntsOver_6 : decode cX5_huntsOver 6 = .ok (.istore 5, 2) := by decide +kernel
theorem tX5_huntsOver_6 {d : Nat} {l0 l1 l2 l3 l4 l5 l6 : Option Value} {x : Int32} {m : jmM} {Q : Option Value → jmM → Prop} : AW d 70 6 [l0, l1, l2, l3, l4, l5, l6] [.int x] m Q ↔ AW d 70 8 [l0, l1, l2, l3, jc1 l4, some (.int x), l6] [] m Q := A_istore hB_X5_huntsOver dX5_huntsOver_6 (Nat.le_of_ble_eq_true rfl) rfl
theorem dX5_huntsOver_8 : decode cX5_huntsOver 8 = .ok (.iload 5, 2) := by decide +kernel
theorem tX5_huntsOver_8 {d : Nat} {l0 l1 l2 l3 l4 l6 : Option Value} {x : Int32} {m : jmM} {Q : Option Value → jmM → Prop} : AW d 70 8 [l0, l1, l2, l3, l4, some (.int x), l6] [] m Q ↔ AW d 70 10 [l0, l1, l2, l3, l4, some (.int x), l6] [.int x] m Q := A_iload hB_X5_huntsOver dX5_huntsOver_8 rfl
theorem dX5_huntsOver_10 : decode cX5_huntsOver 10 = .ok (.iload_n 2, 1) := by decide +kernel
theorem tX5_huntsOver_10 {d : Nat} {l0 l1 l3 l4 l5 l6 : Option Value} {v0 : Value} {x : Int32} {m : jmM} {Q : Option Value → jmM → Prop} : AW d 70 10 [l0, l1, some (.int x), l3, l4, l5, l6] [v0] m Q ↔ AW d 70 11 [l0, l1, some (.int x), l3, l4, l5, l6] [.int x, v0] m Q := A_iload_n hB_X5_huntsOver dX5_huntsOver_10 rfl
theorem dX5_huntsOver_11 : decode cX5_huntsOver 11 = .ok (.if_icmp .gt 62, 3) := by decide +kernel
theorem tX5_huntsOver_11 {d : Nat} {l0 l1 l2 l3 l4 l5 l6 : Option Value} {x y : Int32} {m : jmM} {Q : Option Value → jmM → Prop} : AW d 70 11 [l0, l1, l2, l3, l4, l5, l6] [.int y, .int x] m Q ↔ if y < x then AW d 70 73 [l0, l1, l2, l3, l4, l5, l6] [] m Q else AW d 70 14 [l0, l1, l2, l3, l4, l5, l6] [] m Q := A_icmp_gt hB_X5_huntsOver dX5_huntsOver_11 (by decide)
theorem dX5_huntsOver_14 : decode cX5_huntsOver 14 = .ok (.aload_n 0, 1) := by decide +kernel
theorem tX5_huntsOver_14 {d : Nat} {l1 l2 l3 l4 l5 l6 : Option Value} {x : Nat} {m : jmM} {Q : Option Value → jmM → Prop} : AW d 70 14 [some (.ref x), l1, l2, l3, l4, l5, l6] [] m Q ↔ AW d 70 15 [some (.ref x), l1, l2, l3, l4, l5, l6] [.ref x] m Q := A_aload_n hB_X5_huntsOver dX5_huntsOver_14 rfl
theorem dX5_huntsOver_15 : decode cX5_huntsOver 15 = .ok (.iload 5, 2) := by decide +kernel
theorem tX5_huntsOver_15 {d : Nat} {l0 l1 l2 l3 l4 l6 : Option Value} {v0 : Value} {x : Int32} {m : jmM} {Q : Option Value → jmM → Prop} : AW d 70 15 [l0, l1, l2, l3, l4, some (.int x), l6] [v0] m Q ↔ AW d 70 17 [l0, l1, l2, l3, l4, some (.int x), l6] [.int x, v0] m Q := A_iload hB_X5_huntsOver dX5_huntsOver_15 rfl
theorem dX5_huntsOver_17 : decode cX5_huntsOver 17 = .ok (.invokevirtual 204, 3) := by decide +kernel
theorem tX5_huntsOver_17 {d : Nat} {l0 l1 l2 l3 l4 l5 l6 : Option Value} {y0 : Value} {a : Nat} {m : jmM} {Q : Option Value → jmM → Prop} : AW d 70 17 [l0, l1, l2, l3, l4, l5, l6] [y0, .ref a] m Q ↔ (mS m a).1 = 5 ∧ CC d 81 [.ref a, y0] m (jK d 70 20 [l0, l1, l2, l3, l4, l5, l6] [] Q) := A_callV hB_X5_huntsOver dX5_huntsOver_17 hO_X5_huntsOver fS_5_204 ⟨Nat.le_of_ble_eq_true rfl, Nat.le_of_ble_eq_true rfl⟩ rfl rfl rfl
theorem dX5_huntsOver_20 : decode cX5_huntsOver 20 = .ok (.aload_n 0, 1) := by decide +kernel
theorem tX5_huntsOver_20 {d : Nat} {l1 l2 l3 l4 l5 l6 : Option Value} {v0 : Value} {x : Nat} {m : jmM} {Q : Option Value → jmM → Prop} : AW d 70 20 [some (.ref x), l1, l2, l3, l4, l5, l6] [v0] m Q ↔ AW d 70 21 [some (.ref x), l1, l2, l3, l4, l5, l6] [.ref x, v0] m Q := A_aload_n hB_X5_huntsOver dX5_huntsOver_20 rfl
theorem dX5_huntsOver_21 : decode cX5_huntsOver 21 = .ok (.getfield 12, 3) := by decide +kernel
theorem tX5_huntsOver_21 {d : Nat} {l0 l1 l2 l3 l4 l5 l6 : Option Value} {v1 : Value} {a : Nat} {m : jmM} {Q : Option Value → jmM → Prop} : AW d 70 21 [l0, l1, l2, l3, l4, l5, l6] [.ref a, v1] m Q ↔ (mS m a).1 = 5 ∧ AW d 70 24 [l0, l1, l2, l3, l4, l5, l6] [va_rf (mR m a 0), v1] m Q := A_getfield (f := fun m a => va_rf (mR m a 0)) hB_X5_huntsOver dX5_huntsOver_21 hO_X5_huntsOver fF_5_12 rfl
theorem dX5_huntsOver_24 : decode cX5_huntsOver 24 = .ok (.invokevirtual 106, 3) := by decide +kernel
theorem tX5_huntsOver_24 {d : Nat} {l0 l1 l2 l3 l4 l5 l6 : Option Value} {v1 : Value} {a : Nat} {m : jmM} {Q : Option Value → jmM → Prop} : AW d 70 24 [l0, l1, l2, l3, l4, l5, l6] [.ref a, v1] m Q ↔ (mS m a).1 = 8 ∧ CC d 123 [.ref a] m (jK d 70 27 [l0, l1, l2, l3, l4, l5, l6] [v1] Q) := A_callV hB_X5_huntsOver dX5_huntsOver_24 hO_X5_huntsOver fS_5_106 ⟨Nat.le_of_ble_eq_true rfl, Nat.le_of_ble_eq_true rfl⟩ rfl rfl rfl
theorem dX5_huntsOver_27 : decode cX5_huntsOver 27 = .ok (.isub, 1) := by decide +kernel
theorem tX5_huntsOver_27 {d : Nat} {l0 l1 l2 l3 l4 l5 l6 : Option Value} {x y : Int32} {m : jmM} {Q : Option Value → jmM → Prop} : AW d 70 27 [l0, l1, l2, l3, l4, l5, l6] [.int y, .int x] m Q ↔ AW d 70 28 [l0, l1, l2, l3, l4, l5, l6] [.int (x - y)] m Q := A_isub hB_X5_huntsOver dX5_huntsOver_27
theorem dX5_huntsOver_28 : decode cX5_huntsOver 28 = .ok (.istore 6, 2) := by decide +kernel
theorem tX5_huntsOver_28 {d : Nat} {l0 l1 l2 l3 l4 l5 l6 : Option Value} {x : Int32} {m : jmM} {Q : Option Value → jmM → Prop} : AW d 70 28 [l0, l1, l2, l3, l4, l5, l6] [.int x] m Q ↔ AW d 70 30 [l0, l1, l2, l3, l4, jc1 l5, some (.int x)] [] m Q := A_istore hB_X5_huntsOver dX5_huntsOver_28 (Nat.le_of_ble_eq_true rfl) rfl
theorem dX5_huntsOver_30 : decode cX5_huntsOver 30 = .ok (.iload 6, 2) := by decide +kernel
theorem tX5_huntsOver_30 {d : Nat} {l0 l1 l2 l3 l4 l5 : Option Value} {x : Int32} {m : jmM} {Q : Option Value → jmM → Prop} : AW d 70 30 [l0, l1, l2, l3, l4, l5, some (.int x)] [] m Q ↔ AW d 70 32 [l0, l1, l2, l3, l4, l5, some (.int x)] [.int x] m Q := A_iload hB_X5_huntsOver dX5_huntsOver_30 rfl
theorem dX5_huntsOver_32 : decode cX5_huntsOver 32 = .ok (.ifCond .le 8, 3) := by decide +kernel
theorem tX5_huntsOver_32 {d : Nat} {l0 l1 l2 l3 l4 l5 l6 : Option Value} {x : Int32} {m : jmM} {Q : Option Value → jmM → Prop} : AW d 70 32 [l0, l1, l2, l3, l4, l5, l6] [.int x] m Q ↔ if x ≤ 0 then AW d 70 40 [l0, l1, l2, l3, l4, l5, l6] [] m Q else AW d 70 35 [l0, l1, l2, l3, l4, l5, l6] [] m Q := A_if_le hB_X5_huntsOver dX5_huntsOver_32 (by decide)
theorem dX5_huntsOver_35 : decode cX5_huntsOver 35 = .ok (.iload 4, 2) := by decide +kernel
theorem tX5_huntsOver_35 {d : Nat} {l0 l1 l2 l3 l5 l6 : Option Value} {x : Int32} {m : jmM} {Q : Option Value → jmM → Prop} : AW d 70 35 [l0, l1, l2, l3, some (.int x), l5, l6] [] m Q ↔ AW d 70 37 [l0, l1, l2, l3, some (.int x), l5, l6] [.int x] m Q := A_iload hB_X5_huntsOver dX5_huntsOver_35 rfl
theorem dX5_huntsOver_37 : decode cX5_huntsOver 37 = .ok (.ifCond .lt 13, 3) := by decide +kernel
theorem tX5_huntsOver_37 {d : Nat} {l0 l1 l2 l3 l4 l5 l6 : Option Value} {x : Int32} {m : jmM} {Q : Option Value → jmM → Prop} : AW d 70 37 [l0, l1, l2, l3, l4, l5, l6] [.int x] m Q ↔ if x < 0 then AW d 70 50 [l0, l1, l2, l3, l4, l5, l6] [] m Q else AW d 70 40 [l0, l1, l2, l3, l4, l5, l6] [] m Q := A_if_lt hB_X5_huntsOver dX5_huntsOver_37 (by decide)
theorem dX5_huntsOver_40 : decode cX5_huntsOver 40 = .ok (.iload 6, 2) := by decide +kernel
theorem tX5_huntsOver_40 {d : Nat} {l0 l1 l2 l3 l4 l5 : Option Value} {x : Int32} {m : jmM} {Q : Option Value → jmM → Prop} : AW d 70 40 [l0, l1, l2, l3, l4, l5, some (.int x)] [] m Q ↔ AW d 70 42 [l0, l1, l2, l3, l4, l5, some (.int x)] [.int x] m Q := A_iload hB_X5_huntsOver dX5_huntsOver_40 rfl
theorem dX5_huntsOver_42 : decode cX5_huntsOver 42 = .ok (.ifCond .ge 11, 3) := by decide +kernel
theorem tX5_huntsOver_42 {d : Nat} {l0 l1 l2 l3 l4 l5 l6 : Option Value} {x : Int32} {m : jmM} {Q : Option Value → jmM → Prop} : AW d 70 42 [l0, l1, l2, l3, l4, l5, l6] [.int x] m Q ↔ if 0 ≤ x then AW d 70 53 [l0, l1, l2, l3, l4, l5, l6] [] m Q else AW d 70 45 [l0, l1, l2, l3, l4, l5, l6] [] m Q := A_if_ge hB_X5_huntsOver dX5_huntsOver_42 (by decide)
theorem dX5_huntsOver_45 : decode cX5_huntsOver 45 = .ok (.iload 4, 2) := by decide +kernel
theorem tX5_huntsOver_45 {d : Nat} {l0 l1 l2 l3 l5 l6 : Option Value} {x : Int32} {m : jmM} {Q : Option Value → jmM → Prop} : AW d 70 45 [l0, l1, l2, l3, some (.int x), l5, l6] [] m Q ↔ AW d 70 47 [l0, l1, l2, l3, some (.int x), l5, l6] [.int x] m Q := A_iload hB_X5_huntsOver dX5_huntsOver_45 rfl
theorem dX5_huntsOver_47 : decode cX5_huntsOver 47 = .ok (.ifCond .le 6, 3) := by decide +kernel
theorem tX5_huntsOver_47 {d : Nat} {l0 l1 l2 l3 l4 l5 l6 : Option Value} {x : Int32} {m : jmM} {Q : Option Value → jmM → Prop} : AW d 70 47 [l0, l1, l2, l3, l4, l5, l6] [.int x] m Q ↔ if x ≤ 0 then AW d 70 53 [l0, l1, l2, l3, l4, l5, l6] [] m Q else AW d 70 50 [l0, l1, l2, l3, l4, l5, l6] [] m Q := A_if_le hB_X5_huntsOver dX5_huntsOver_47 (by decide)
theorem dX5_huntsOver_50 : decode cX5_huntsOver 50 = .ok (.iinc 3 1, 3) := by decide +kernel
theorem tX5_huntsOver_50 {d : Nat} {l0 l1 l2 l4 l5 l6 : Option Value} {x : Int32} {m : jmM} {Q : Option Value → jmM → Prop} : AW d 70 50 [l0, l1, l2, some (.int x), l4, l5, l6] [] m Q ↔ AW d 70 53 [l0, l1, jc1 l2, some (.int (x + 1)), l4, l5, l6] [] m Q := A_iinc hB_X5_huntsOver dX5_huntsOver_50 rfl (Nat.le_of_ble_eq_true rfl) (v := 1) (by decide) rfl
theorem dX5_huntsOver_53 : decode cX5_huntsOver 53 = .ok (.iload 6, 2) := by decide +kernel
theorem tX5_huntsOver_53 {d : Nat} {l0 l1 l2 l3 l4 l5 : Option Value} {x : Int32} {m : jmM} {Q : Option Value → jmM → Prop} : AW d 70 53 [l0, l1, l2, l3, l4, l5, some (.int x)] [] m Q ↔ AW d 70 55 [l0, l1, l2, l3, l4, l5, some (.int x)] [.int x] m Q := A_iload hB_X5_huntsOver dX5_huntsOver_53 rfl
theorem dX5_huntsOver_55 : decode cX5_huntsOver 55 = .ok (.ifCond .ne 8, 3) := by decide +kernel
theorem tX5_huntsOver_55 {d : Nat} {l0 l1 l2 l3 l4 l5 l6 : Option Value} {x : Int32} {m : jmM} {Q : Option Value → jmM → Prop} : AW d 70 55 [l0, l1, l2, l3, l4, l5, l6] [.int x] m Q ↔ if x = 0 then AW d 70 58 [l0, l1, l2, l3, l4, l5, l6] [] m Q else AW d 70 63 [l0, l1, l2, l3, l4, l5, l6] [] m Q := A_if_ne hB_X5_huntsOver dX5_huntsOver_55 (by decide)
theorem dX5_huntsOver_58 : decode cX5_huntsOver 58 = .ok (.iload 4, 2) := by decide +kernel
theorem tX5_huntsOver_58 {d : Nat} {l0 l1 l2 l3 l5 l6 : Option Value} {x : Int32} {m : jmM} {Q : Option Value → jmM → Prop} : AW d 70 58 [l0, l1, l2, l3, some (.int x), l5, l6] [] m Q ↔ AW d 70 60 [l0, l1, l2, l3, some (.int x), l5, l6] [.int x] m Q := A_iload hB_X5_huntsOver dX5_huntsOver_58 rfl
theorem dX5_huntsOver_60 : decode cX5_huntsOver 60 = .ok (.goto 5, 3) := by decide +kernel
theorem tX5_huntsOver_60 {d : Nat} {l0 l1 l2 l3 l4 l5 l6 : Option Value} {v0 : Value} {m : jmM} {Q : Option Value → jmM → Prop} : AW d 70 60 [l0, l1, l2, l3, l4, l5, l6] [v0] m Q ↔ AW d 70 65 [l0, l1, l2, l3, l4, l5, l6] [v0] m Q := A_goto hB_X5_huntsOver dX5_huntsOver_60 (by decide)
theorem dX5_huntsOver_63 : decode cX5_huntsOver 63 = .ok (.iload 6, 2) := by decide +kernel
theorem tX5_huntsOver_63 {d : Nat} {l0 l1 l2 l3 l4 l5 : Option Value} {x : Int32} {m : jmM} {Q : Option Value → jmM → Prop} : AW d 70 63 [l0, l1, l2, l3, l4, l5, some (.int x)] [] m Q ↔ AW d 70 65 [l0, l1, l2, l3, l4, l5, some (.int x)] [.int x] m Q := A_iload hB_X5_huntsOver dX5_huntsOver_63 rfl
theorem dX5_huntsOver_65 : decode cX5_huntsOver 65 = .ok (.istore 4, 2) := by decide +kernel
theorem tX5_huntsOver_65 {d : Nat} {l0 l1 l2 l3 l4 l5 l6 : Option Value} {x : Int32} {m : jmM} {Q : Option Value → jmM → Prop} : AW d 70 65 [l0, l1, l2, l3, l4, l5, l6] [.int x] m Q ↔ AW d 70 67 [l0, l1, l2, jc1 l3, some (.int x), l5, l6] [] m Q := A_istore hB_X5_huntsOver dX5_huntsOver_65 (Nat.le_of_ble_eq_true rfl) rfl
theorem dX5_huntsOver_67 : decode cX5_huntsOver 67 = .ok (.iinc 5 1, 3) := by decide +kernel
theorem tX5_huntsOver_67 {d : Nat} {l0 l1 l2 l3 l4 l6 : Option Value} {x : Int32} {m : jmM} {Q : Option Value → jmM → Prop} : AW d 70 67 [l0, l1, l2, l3, l4, some (.int x), l6] [] m Q ↔ AW d 70 70 [l0, l1, l2, l3, jc1 l4, some (.int (x + 1)), l6] [] m Q := A_iinc hB_X5_huntsOver dX5_huntsOver_67 rfl (Nat.le_of_ble_eq_true rfl) (v := 1) (by decide) rfl
theorem dX5_huntsOver_70 : decode cX5_huntsOver 70 = .ok (.goto (-62), 3) := by decide +kernel
theorem tX5_huntsOver_70 {d : Nat} {l0 l1 l2 l3 l4 l5 l6 : Option Value} {m : jmM} {Q : Option Value → jmM → Prop} : AW d 70 70 [l0, l1, l2, l3, l4, l5, l6] [] m Q ↔ AW d 70 8 [l0, l1, l2, l3, l4, l5, l6] [] m Q := A_goto hB_X5_huntsOver dX5_huntsOver_70 (by decide)
theorem dX5_huntsOver_73 : decode cX5_huntsOver 73 = .ok (.iload_n 3, 1) := by decide +kernel
theorem tX5_huntsOver_73 {d : Nat} {l0 l1 l2 l4 l5 l6 : Option Value} {x : Int32} {m : jmM} {Q : Option Value → jmM → Prop} : AW d 70 73 [l0, l1, l2, some (.int x), l4, l5, l6] [] m Q ↔ AW d 70 74 [l0, l1, l2, some (.int x), l4, l5, l6] [.int x] m Q := A_iload_n hB_X5_huntsOver dX5_huntsOver_73 rfl
theorem dX5_huntsOver_74 : decode cX5_huntsOver 74 = .ok (.ireturn, 1) := by decide +kernel
theorem tX5_huntsOver_74 {d : Nat} {l0 l1 l2 l3 l4 l5 l6 : Option Value} {x : Int32} {m : jmM} {Q : Option Value → jmM → Prop} : AW d 70 74 [l0, l1, l2, l3, l4, l5, l6] [.int x] m Q ↔ Q (some (.int x)) m := A_ireturn hB_X5_huntsOver dX5_huntsOver_74 hR_X5_huntsOver
theorem hB_X5_replay : jB 71 = cX5_replay := rfl
theorem hO_X5_replay : jO 71 = 5 := rfl
theorem hR_X5_replay : jRt 71 = none := rfl
theorem nX5_replay (d : Nat) (x0 : Nat) (x1 : Int32) (x2 : Int64) (x3 : Int32) (x4 : Nat) (m : jmM) (Q : Option Value → jmM → Prop) : CC (d + 1) 71 [.ref x0, .int x1, .long x2, .int x3, .ref x4] m Q ↔ AW d 71 0 [some (.ref x0), some (.int x1), some (.long x2), none, some (.int x3), some (.ref x4), none, none, none, none, none, none, none, none] [] m Q := CC_body (Nat.le_of_ble_eq_true rfl)
theorem dX5_replay_0 : decode cX5_replay 0 = .ok (.lload_n 2, 1) := by decide +kernel
theorem tX5_replay_0 {d : Nat} {l0 l1 l3 l4 l5 l6 l7 l8 l9 l10 l11 l12 l13 : Option Value} {x : Int64} {m : jmM} {Q : Option Value → jmM → Prop} : AW d 71 0 [l0, l1, some (.long x), l3, l4, l5, l6, l7, l8, l9, l10, l11, l12, l13] [] m Q ↔ AW d 71 1 [l0, l1, some (.long x), l3, l4, l5, l6, l7, l8, l9, l10, l11, l12, l13] [.long x] m Q := A_lload_n hB_X5_replay dX5_replay_0 rfl
theorem dX5_replay_1 : decode cX5_replay 1 = .ok (.lstore 6, 2) := by decide +kernel
theorem tX5_replay_1 {d : Nat} {l0 l1 l2 l3 l4 l5 l6 l7 l8 l9 l10 l11 l12 l13 : Option Value} {x : Int64} {m : jmM} {Q : Option Value → jmM → Prop} : AW d 71 1 [l0, l1, l2, l3, l4, l5, l6, l7, l8, l9, l10, l11, l12, l13] [.long x] m Q ↔ AW d 71 3 [l0, l1, l2, l3, l4, jc1 l5, some (.long x), none, l8, l9, l10, l11, l12, l13] [] m Q := A_lstore hB_X5_replay dX5_replay_1 (Nat.le_of_ble_eq_true rfl) rfl
theorem dX5_replay_3 : decode cX5_replay 3 = .ok (.aload_n 0, 1) := by decide +kernel
theorem tX5_replay_3 {d : Nat} {l1 l2 l3 l4 l5 l6 l7 l8 l9 l10 l11 l12 l13 : Option Value} {x : Nat} {m : jmM} {Q : Option Value → jmM → Prop} : AW d 71 3 [some (.ref x), l1, l2, l3, l4, l5, l6, l7, l8, l9, l10, l11, l12, l13] [] m Q ↔ AW d 71 4 [some (.ref x), l1, l2, l3, l4, l5, l6, l7, l8, l9, l10, l11, l12, l13] [.ref x] m Q := A_aload_n hB_X5_replay dX5_replay_3 rfl
theorem dX5_replay_4 : decode cX5_replay 4 = .ok (.getfield 12, 3) := by decide +kernel
theorem tX5_replay_4 {d : Nat} {l0 l1 l2 l3 l4 l5 l6 l7 l8 l9 l10 l11 l12 l13 : Option Value} {a : Nat} {m : jmM} {Q : Option Value → jmM → Prop} : AW d 71 4 [l0, l1, l2, l3, l4, l5, l6, l7, l8, l9, l10, l11, l12, l13] [.ref a] m Q ↔ (mS m a).1 = 5 ∧ AW d 71 7 [l0, l1, l2, l3, l4, l5, l6, l7, l8, l9, l10, l11, l12, l13] [va_rf (mR m a 0)] m Q := A_getfield (f := fun m a => va_rf (mR m a 0)) hB_X5_replay dX5_replay_4 hO_X5_replay fF_5_12 rfl
theorem dX5_replay_7 : decode cX5_replay 7 = .ok (.invokevirtual 78, 3) := by decide +kernel
theorem tX5_replay_7 {d : Nat} {l0 l1 l2 l3 l4 l5 l6 l7 l8 l9 l10 l11 l12 l13 : Option Value} {a : Nat} {m : jmM} {Q : Option Value → jmM → Prop} : AW d 71 7 [l0, l1, l2, l3, l4, l5, l6, l7, l8, l9, l10, l11, l12, l13] [.ref a] m Q ↔ (mS m a).1 = 8 ∧ CC d 122 [.ref a] m (jK d 71 10 [l0, l1, l2, l3, l4, l5, l6, l7, l8, l9, l10, l11, l12, l13] [] Q) := A_callV hB_X5_replay dX5_replay_7 hO_X5_replay fS_5_78 ⟨Nat.le_of_ble_eq_true rfl, Nat.le_of_ble_eq_true rfl⟩ rfl rfl rfl
theorem dX5_replay_10 : decode cX5_replay 10 = .ok (.i2l, 1) := by decide +kernel
theorem tX5_replay_10 {d : Nat} {l0 l1 l2 l3 l4 l5 l6 l7 l8 l9 l10 l11 l12 l13 : Option Value} {x : Int32} {m : jmM} {Q : Option Value → jmM → Prop} : AW d 71 10 [l0, l1, l2, l3, l4, l5, l6, l7, l8, l9, l10, l11, l12, l13] [.int x] m Q ↔ AW d 71 11 [l0, l1, l2, l3, l4, l5, l6, l7, l8, l9, l10, l11, l12, l13] [.long x.toInt64] m Q := A_i2l hB_X5_replay dX5_replay_10
theorem dX5_replay_11 : decode cX5_replay 11 = .ok (.lstore 8, 2) := by decide +kernel
theorem tX5_replay_11 {d : Nat} {l0 l1 l2 l3 l4 l5 l6 l7 l8 l9 l10 l11 l12 l13 : Option Value} {x : Int64} {m : jmM} {Q : Option Value → jmM → Prop} : AW d 71 11 [l0, l1, l2, l3, l4, l5, l6, l7, l8, l9, l10, l11, l12, l13] [.long x] m Q ↔ AW d 71 13 [l0, l1, l2, l3, l4, l5, l6, jc1 l7, some (.long x), none, l10, l11, l12, l13] [] m Q := A_lstore hB_X5_replay dX5_replay_11 (Nat.le_of_ble_eq_true rfl) rfl
theorem dX5_replay_13 : decode cX5_replay 13 = .ok (.aload_n 0, 1) := by decide +kernel
theorem tX5_replay_13 {d : Nat} {l1 l2 l3 l4 l5 l6 l7 l8 l9 l10 l11 l12 l13 : Option Value} {x : Nat} {m : jmM} {Q : Option Value → jmM → Prop} : AW d 71 13 [some (.ref x), l1, l2, l3, l4, l5, l6, l7, l8, l9, l10, l11, l12, l13] [] m Q ↔ AW d 71 14 [some (.ref x), l1, l2, l3, l4, l5, l6, l7, l8, l9, l10, l11, l12, l13] [.ref x] m Q := A_aload_n hB_X5_replay dX5_replay_13 rfl
theorem dX5_replay_14 : decode cX5_replay 14 = .ok (.getfield 18, 3) := by decide +kernel
theorem tX5_replay_14 {d : Nat} {l0 l1 l2 l3 l4 l5 l6 l7 l8 l9 l10 l11 l12 l13 : Option Value} {a : Nat} {m : jmM} {Q : Option Value → jmM → Prop} : AW d 71 14 [l0, l1, l2, l3, l4, l5, l6, l7, l8, l9, l10, l11, l12, l13] [.ref a] m Q ↔ (mS m a).1 = 5 ∧ AW d 71 17 [l0, l1, l2, l3, l4, l5, l6, l7, l8, l9, l10, l11, l12, l13] [va_rf (mR m a 1)] m Q := A_getfield (f := fun m a => va_rf (mR m a 1)) hB_X5_replay dX5_replay_14 hO_X5_replay fF_5_18 rfl
theorem dX5_replay_17 : decode cX5_replay 17 = .ok (.ifnonnull 7, 3) := by decide +kernel
theorem tX5_replay_17 {d : Nat} {l0 l1 l2 l3 l4 l5 l6 l7 l8 l9 l10 l11 l12 l13 : Option Value} {x : Option Nat} {m : jmM} {Q : Option Value → jmM → Prop} : AW d 71 17 [l0, l1, l2, l3, l4, l5, l6, l7, l8, l9, l10, l11, l12, l13] [va_rf x] m Q ↔ if x = none then AW d 71 20 [l0, l1, l2, l3, l4, l5, l6, l7, l8, l9, l10, l11, l12, l13] [] m Q else AW d 71 24 [l0, l1, l2, l3, l4, l5, l6, l7, l8, l9, l10, l11, l12, l13] [] m Q := A_ifnonnull hB_X5_replay dX5_replay_17 (by decide)
theorem tX5_replay_17r {d : Nat} {l0 l1 l2 l3 l4 l5 l6 l7 l8 l9 l10 l11 l12 l13 : Option Value} {x : Nat} {m : jmM} {Q : Option Value → jmM → Prop} : AW d 71 17 [l0, l1, l2, l3, l4, l5, l6, l7, l8, l9, l10, l11, l12, l13] [.ref x] m Q ↔ AW d 71 24 [l0, l1, l2, l3, l4, l5, l6, l7, l8, l9, l10, l11, l12, l13] [] m Q := A_ifnonnull_r hB_X5_replay dX5_replay_17 (t := 24) (by decide)
theorem dX5_replay_20 : decode cX5_replay 20 = .ok (.iconst 0, 1) := by decide +kernel
theorem tX5_replay_20 {d : Nat} {l0 l1 l2 l3 l4 l5 l6 l7 l8 l9 l10 l11 l12 l13 : Option Value} {m : jmM} {Q : Option Value → jmM → Prop} : AW d 71 20 [l0, l1, l2, l3, l4, l5, l6, l7, l8, l9, l10, l11, l12, l13] [] m Q ↔ AW d 71 21 [l0, l1, l2, l3, l4, l5, l6, l7, l8, l9, l10, l11, l12, l13] [.int 0] m Q := A_iconst hB_X5_replay dX5_replay_20 (by decide)
theorem dX5_replay_21 : decode cX5_replay 21 = .ok (.goto 11, 3) := by decide +kernel
theorem tX5_replay_21 {d : Nat} {l0 l1 l2 l3 l4 l5 l6 l7 l8 l9 l10 l11 l12 l13 : Option Value} {v0 : Value} {m : jmM} {Q : Option Value → jmM → Prop} : AW d 71 21 [l0, l1, l2, l3, l4, l5, l6, l7, l8, l9, l10, l11, l12, l13] [v0] m Q ↔ AW d 71 32 [l0, l1, l2, l3, l4, l5, l6, l7, l8, l9, l10, l11, l12, l13] [v0] m Q := A_goto hB_X5_replay dX5_replay_21 (by decide)
theorem dX5_replay_24 : decode cX5_replay 24 = .ok (.aload_n 0, 1) := by decide +kernel
theorem tX5_replay_24 {d : Nat} {l1 l2 l3 l4 l5 l6 l7 l8 l9 l10 l11 l12 l13 : Option Value} {x : Nat} {m : jmM} {Q : Option Value → jmM → Prop} : AW d 71 24 [some (.ref x), l1, l2, l3, l4, l5, l6, l7, l8, l9, l10, l11, l12, l13] [] m Q ↔ AW d 71 25 [some (.ref x), l1, l2, l3, l4, l5, l6, l7, l8, l9, l10, l11, l12, l13] [.ref x] m Q := A_aload_n hB_X5_replay dX5_replay_24 rfl
theorem dX5_replay_25 : decode cX5_replay 25 = .ok (.getfield 18, 3) := by decide +kernel
theorem tX5_replay_25 {d : Nat} {l0 l1 l2 l3 l4 l5 l6 l7 l8 l9 l10 l11 l12 l13 : Option Value} {a : Nat} {m : jmM} {Q : Option Value → jmM → Prop} : AW d 71 25 [l0, l1, l2, l3, l4, l5, l6, l7, l8, l9, l10, l11, l12, l13] [.ref a] m Q ↔ (mS m a).1 = 5 ∧ AW d 71 28 [l0, l1, l2, l3, l4, l5, l6, l7, l8, l9, l10, l11, l12, l13] [va_rf (mR m a 1)] m Q := A_getfield (f := fun m a => va_rf (mR m a 1)) hB_X5_replay dX5_replay_25 hO_X5_replay fF_5_18 rfl
theorem dX5_replay_28 : decode cX5_replay 28 = .ok (.iload_n 1, 1) := by decide +kernel
theorem tX5_replay_28 {d : Nat} {l0 l2 l3 l4 l5 l6 l7 l8 l9 l10 l11 l12 l13 : Option Value} {v0 : Value} {x : Int32} {m : jmM} {Q : Option Value → jmM → Prop} : AW d 71 28 [l0, some (.int x), l2, l3, l4, l5, l6, l7, l8, l9, l10, l11, l12, l13] [v0] m Q ↔ AW d 71 29 [l0, some (.int x), l2, l3, l4, l5, l6, l7, l8, l9, l10, l11, l12, l13] [.int x, v0] m Q := A_iload_n hB_X5_replay dX5_replay_28 rfl
theorem dX5_replay_29 : decode cX5_replay 29 = .ok (.invokevirtual 181, 3) := by decide +kernel
theorem tX5_replay_29 {d : Nat} {l0 l1 l2 l3 l4 l5 l6 l7 l8 l9 l10 l11 l12 l13 : Option Value} {y0 : Value} {a : Nat} {m : jmM} {Q : Option Value → jmM → Prop} : AW d 71 29 [l0, l1, l2, l3, l4, l5, l6, l7, l8, l9, l10, l11, l12, l13] [y0, .ref a] m Q ↔ (mS m a).1 = 3 ∧ CC d 35 [.ref a, y0] m (jK d 71 32 [l0, l1, l2, l3, l4, l5, l6, l7, l8, l9, l10, l11, l12, l13] [] Q) := A_callV hB_X5_replay dX5_replay_29 hO_X5_replay fS_5_181 ⟨Nat.le_of_ble_eq_true rfl, Nat.le_of_ble_eq_true rfl⟩ rfl rfl rfl
theorem dX5_replay_32 : decode cX5_replay 32 = .ok (.istore 10, 2) := by decide +kernel
theorem tX5_replay_32 {d : Nat} {l0 l1 l2 l3 l4 l5 l6 l7 l8 l9 l10 l11 l12 l13 : Option Value} {x : Int32} {m : jmM} {Q : Option Value → jmM → Prop} : AW d 71 32 [l0, l1, l2, l3, l4, l5, l6, l7, l8, l9, l10, l11, l12, l13] [.int x] m Q ↔ AW d 71 34 [l0, l1, l2, l3, l4, l5, l6, l7, l8, jc1 l9, some (.int x), l11, l12, l13] [] m Q := A_istore hB_X5_replay dX5_replay_32 (Nat.le_of_ble_eq_true rfl) rfl
theorem dX5_replay_34 : decode cX5_replay 34 = .ok (.iconst 0, 1) := by decide +kernel
theorem tX5_replay_34 {d : Nat} {l0 l1 l2 l3 l4 l5 l6 l7 l8 l9 l10 l11 l12 l13 : Option Value} {m : jmM} {Q : Option Value → jmM → Prop} : AW d 71 34 [l0, l1, l2, l3, l4, l5, l6, l7, l8, l9, l10, l11, l12, l13] [] m Q ↔ AW d 71 35 [l0, l1, l2, l3, l4, l5, l6, l7, l8, l9, l10, l11, l12, l13] [.int 0] m Q := A_iconst hB_X5_replay dX5_replay_34 (by decide)
theorem dX5_replay_35 : decode cX5_replay 35 = .ok (.istore 11, 2) := by decide +kernel
theorem tX5_replay_35 {d : Nat} {l0 l1 l2 l3 l4 l5 l6 l7 l8 l9 l10 l11 l12 l13 : Option Value} {x : Int32} {m : jmM} {Q : Option Value → jmM → Prop} : AW d 71 35 [l0, l1, l2, l3, l4, l5, l6, l7, l8, l9, l10, l11, l12, l13] [.int x] m Q ↔ AW d 71 37 [l0, l1, l2, l3, l4, l5, l6, l7, l8, l9, jc1 l10, some (.int x), l12, l13] [] m Q := A_istore hB_X5_replay dX5_replay_35 (Nat.le_of_ble_eq_true rfl) rfl
theorem dX5_replay_37 : decode cX5_replay 37 = .ok (.iload 11, 2) := by decide +kernel
theorem tX5_replay_37 {d : Nat} {l0 l1 l2 l3 l4 l5 l6 l7 l8 l9 l10 l12 l13 : Option Value} {x : Int32} {m : jmM} {Q : Option Value → jmM → Prop} : AW d 71 37 [l0, l1, l2, l3, l4, l5, l6, l7, l8, l9, l10, some (.int x), l12, l13] [] m Q ↔ AW d 71 39 [l0, l1, l2, l3, l4, l5, l6, l7, l8, l9, l10, some (.int x), l12, l13] [.int x] m Q := A_iload hB_X5_replay dX5_replay_37 rfl
theorem dX5_replay_39 : decode cX5_replay 39 = .ok (.aload_n 0, 1) := by decide +kernel
theorem tX5_replay_39 {d : Nat} {l1 l2 l3 l4 l5 l6 l7 l8 l9 l10 l11 l12 l13 : Option Value} {v0 : Value} {x : Nat} {m : jmM} {Q : Option Value → jmM → Prop} : AW d 71 39 [some (.ref x), l1, l2, l3, l4, l5, l6, l7, l8, l9, l10, l11, l12, l13] [v0] m Q ↔ AW d 71 40 [some (.ref x), l1, l2, l3, l4, l5, l6, l7, l8, l9, l10, l11, l12, l13] [.ref x, v0] m Q := A_aload_n hB_X5_replay dX5_replay_39 rfl
theorem dX5_replay_40 : decode cX5_replay 40 = .ok (.getfield 51, 3) := by decide +kernel
theorem tX5_replay_40 {d : Nat} {l0 l1 l2 l3 l4 l5 l6 l7 l8 l9 l10 l11 l12 l13 : Option Value} {v1 : Value} {a : Nat} {m : jmM} {Q : Option Value → jmM → Prop} : AW d 71 40 [l0, l1, l2, l3, l4, l5, l6, l7, l8, l9, l10, l11, l12, l13] [.ref a, v1] m Q ↔ (mS m a).1 = 5 ∧ AW d 71 43 [l0, l1, l2, l3, l4, l5, l6, l7, l8, l9, l10, l11, l12, l13] [.int (mI m a 11), v1] m Q := A_getfield (f := fun m a => .int (mI m a 11)) hB_X5_replay dX5_replay_40 hO_X5_replay fF_5_51 rfl
theorem dX5_replay_43 : decode cX5_replay 43 = .ok (.if_icmp .ge 83, 3) := by decide +kernel
theorem tX5_replay_43 {d : Nat} {l0 l1 l2 l3 l4 l5 l6 l7 l8 l9 l10 l11 l12 l13 : Option Value} {x y : Int32} {m : jmM} {Q : Option Value → jmM → Prop} : AW d 71 43 [l0, l1, l2, l3, l4, l5, l6, l7, l8, l9, l10, l11, l12, l13] [.int y, .int x] m Q ↔ if y ≤ x then AW d 71 126 [l0, l1, l2, l3, l4, l5, l6, l7, l8, l9, l10, l11, l12, l13] [] m Q else AW d 71 46 [l0, l1, l2, l3, l4, l5, l6, l7, l8, l9, l10, l11, l12, l13] [] m Q := A_icmp_ge hB_X5_replay dX5_replay_43 (by decide)
theorem dX5_replay_46 : decode cX5_replay 46 = .ok (.iload 11, 2) := by decide +kernel
theorem tX5_replay_46 {d : Nat} {l0 l1 l2 l3 l4 l5 l6 l7 l8 l9 l10 l12 l13 : Option Value} {x : Int32} {m : jmM} {Q : Option Value → jmM → Prop} : AW d 71 46 [l0, l1, l2, l3, l4, l5, l6, l7, l8, l9, l10, some (.int x), l12, l13] [] m Q ↔ AW d 71 48 [l0, l1, l2, l3, l4, l5, l6, l7, l8, l9, l10, some (.int x), l12, l13] [.int x] m Q := A_iload hB_X5_replay dX5_replay_46 rfl
theorem dX5_replay_48 : decode cX5_replay 48 = .ok (.aload 5, 2) := by decide +kernel
theorem tX5_replay_48 {d : Nat} {l0 l1 l2 l3 l4 l6 l7 l8 l9 l10 l11 l12 l13 : Option Value} {v0 : Value} {x : Nat} {m : jmM} {Q : Option Value → jmM → Prop} : AW d 71 48 [l0, l1, l2, l3, l4, some (.ref x), l6, l7, l8, l9, l10, l11, l12, l13] [v0] m Q ↔ AW d 71 50 [l0, l1, l2, l3, l4, some (.ref x), l6, l7, l8, l9, l10, l11, l12, l13] [.ref x, v0] m Q := A_aload hB_X5_replay dX5_replay_48 rfl
theorem tX5_replay_48q {d : Nat} {l0 l1 l2 l3 l4 l6 l7 l8 l9 l10 l11 l12 l13 : Option Value} {v0 : Value} {x : Option Nat} {m : jmM} {Q : Option Value → jmM → Prop} : AW d 71 48 [l0, l1, l2, l3, l4, some (va_rf x), l6, l7, l8, l9, l10, l11, l12, l13] [v0] m Q ↔ AW d 71 50 [l0, l1, l2, l3, l4, some (va_rf x), l6, l7, l8, l9, l10, l11, l12, l13] [va_rf x, v0] m Q := A_aloadq hB_X5_replay dX5_replay_48 rfl
theorem dX5_replay_50 : decode cX5_replay 50 = .ok (.arraylength, 1) := by decide +kernel
theorem tX5_replay_50 {d : Nat} {l0 l1 l2 l3 l4 l5 l6 l7 l8 l9 l10 l11 l12 l13 : Option Value} {v1 : Value} {a : Nat} {m : jmM} {Q : Option Value → jmM → Prop} : AW d 71 50 [l0, l1, l2, l3, l4, l5, l6, l7, l8, l9, l10, l11, l12, l13] [.ref a, v1] m Q ↔ ((20 ≤ (mS m a).1 ∧ (mS m a).1 ≤ 26) ∨ a = jScr) ∧ AW d 71 51 [l0, l1, l2, l3, l4, l5, l6, l7, l8, l9, l10, l11, l12, l13] [.int (nI (mS m a).2), v1] m Q := A_arraylength hB_X5_replay dX5_replay_50
theorem dX5_replay_51 : decode cX5_replay 51 = .ok (.if_icmp .ge 75, 3) := by decide +kernel
theorem tX5_replay_51 {d : Nat} {l0 l1 l2 l3 l4 l5 l6 l7 l8 l9 l10 l11 l12 l13 : Option Value} {x y : Int32} {m : jmM} {Q : Option Value → jmM → Prop} : AW d 71 51 [l0, l1, l2, l3, l4, l5, l6, l7, l8, l9, l10, l11, l12, l13] [.int y, .int x] m Q ↔ if y ≤ x then AW d 71 126 [l0, l1, l2, l3, l4, l5, l6, l7, l8, l9, l10, l11, l12, l13] [] m Q else AW d 71 54 [l0, l1, l2, l3, l4, l5, l6, l7, l8, l9, l10, l11, l12, l13] [] m Q := A_icmp_ge hB_X5_replay dX5_replay_51 (by decide)
theorem dX5_replay_54 : decode cX5_replay 54 = .ok (.lload 6, 2) := by decide +kernel
theorem tX5_replay_54 {d : Nat} {l0 l1 l2 l3 l4 l5 l7 l8 l9 l10 l11 l12 l13 : Option Value} {x : Int64} {m : jmM} {Q : Option Value → jmM → Prop} : AW d 71 54 [l0, l1, l2, l3, l4, l5, some (.long x), l7, l8, l9, l10, l11, l12, l13] [] m Q ↔ AW d 71 56 [l0, l1, l2, l3, l4, l5, some (.long x), l7, l8, l9, l10, l11, l12, l13] [.long x] m Q := A_lload hB_X5_replay dX5_replay_54 rfl
theorem dX5_replay_56 : decode cX5_replay 56 = .ok (.iload 10, 2) := by decide +kernel
theorem tX5_replay_56 {d : Nat} {l0 l1 l2 l3 l4 l5 l6 l7 l8 l9 l11 l12 l13 : Option Value} {v0 : Value} {x : Int32} {m : jmM} {Q : Option Value → jmM → Prop} : AW d 71 56 [l0, l1, l2, l3, l4, l5, l6, l7, l8, l9, some (.int x), l11, l12, l13] [v0] m Q ↔ AW d 71 58 [l0, l1, l2, l3, l4, l5, l6, l7, l8, l9, some (.int x), l11, l12, l13] [.int x, v0] m Q := A_iload hB_X5_replay dX5_replay_56 rfl
theorem dX5_replay_58 : decode cX5_replay 58 = .ok (.i2l, 1) := by decide +kernel
theorem tX5_replay_58 {d : Nat} {l0 l1 l2 l3 l4 l5 l6 l7 l8 l9 l10 l11 l12 l13 : Option Value} {v1 : Value} {x : Int32} {m : jmM} {Q : Option Value → jmM → Prop} : AW d 71 58 [l0, l1, l2, l3, l4, l5, l6, l7, l8, l9, l10, l11, l12, l13] [.int x, v1] m Q ↔ AW d 71 59 [l0, l1, l2, l3, l4, l5, l6, l7, l8, l9, l10, l11, l12, l13] [.long x.toInt64, v1] m Q := A_i2l hB_X5_replay dX5_replay_58
theorem dX5_replay_59 : decode cX5_replay 59 = .ok (.ladd, 1) := by decide +kernel
theorem tX5_replay_59 {d : Nat} {l0 l1 l2 l3 l4 l5 l6 l7 l8 l9 l10 l11 l12 l13 : Option Value} {x y : Int64} {m : jmM} {Q : Option Value → jmM → Prop} : AW d 71 59 [l0, l1, l2, l3, l4, l5, l6, l7, l8, l9, l10, l11, l12, l13] [.long y, .long x] m Q ↔ AW d 71 60 [l0, l1, l2, l3, l4, l5, l6, l7, l8, l9, l10, l11, l12, l13] [.long (x + y)] m Q := A_ladd hB_X5_replay dX5_replay_59
theorem dX5_replay_60 : decode cX5_replay 60 = .ok (.lstore 6, 2) := by decide +kernel
theorem tX5_replay_60 {d : Nat} {l0 l1 l2 l3 l4 l5 l6 l7 l8 l9 l10 l11 l12 l13 : Option Value} {x : Int64} {m : jmM} {Q : Option Value → jmM → Prop} : AW d 71 60 [l0, l1, l2, l3, l4, l5, l6, l7, l8, l9, l10, l11, l12, l13] [.long x] m Q ↔ AW d 71 62 [l0, l1, l2, l3, l4, jc1 l5, some (.long x), none, l8, l9, l10, l11, l12, l13] [] m Q := A_lstore hB_X5_replay dX5_replay_60 (Nat.le_of_ble_eq_true rfl) rfl
theorem dX5_replay_62 : decode cX5_replay 62 = .ok (.lload 6, 2) := by decide +kernel
theorem tX5_replay_62 {d : Nat} {l0 l1 l2 l3 l4 l5 l7 l8 l9 l10 l11 l12 l13 : Option Value} {x : Int64} {m : jmM} {Q : Option Value → jmM → Prop} : AW d 71 62 [l0, l1, l2, l3, l4, l5, some (.long x), l7, l8, l9, l10, l11, l12, l13] [] m Q ↔ AW d 71 64 [l0, l1, l2, l3, l4, l5, some (.long x), l7, l8, l9, l10, l11, l12, l13] [.long x] m Q := A_lload hB_X5_replay dX5_replay_62 rfl
theorem dX5_replay_64 : decode cX5_replay 64 = .ok (.aload_n 0, 1) := by decide +kernel
theorem tX5_replay_64 {d : Nat} {l1 l2 l3 l4 l5 l6 l7 l8 l9 l10 l11 l12 l13 : Option Value} {v0 : Value} {x : Nat} {m : jmM} {Q : Option Value → jmM → Prop} : AW d 71 64 [some (.ref x), l1, l2, l3, l4, l5, l6, l7, l8, l9, l10, l11, l12, l13] [v0] m Q ↔ AW d 71 65 [some (.ref x), l1, l2, l3, l4, l5, l6, l7, l8, l9, l10, l11, l12, l13] [.ref x, v0] m Q := A_aload_n hB_X5_replay dX5_replay_64 rfl
theorem dX5_replay_65 : decode cX5_replay 65 = .ok (.getfield 64, 3) := by decide +kernel
theorem tX5_replay_65 {d : Nat} {l0 l1 l2 l3 l4 l5 l6 l7 l8 l9 l10 l11 l12 l13 : Option Value} {v1 : Value} {a : Nat} {m : jmM} {Q : Option Value → jmM → Prop} : AW d 71 65 [l0, l1, l2, l3, l4, l5, l6, l7, l8, l9, l10, l11, l12, l13] [.ref a, v1] m Q ↔ (mS m a).1 = 5 ∧ AW d 71 68 [l0, l1, l2, l3, l4, l5, l6, l7, l8, l9, l10, l11, l12, l13] [va_rf (mR m a 15), v1] m Q := A_getfield (f := fun m a => va_rf (mR m a 15)) hB_X5_replay dX5_replay_65 hO_X5_replay fF_5_64 rfl
theorem dX5_replay_68 : decode cX5_replay 68 = .ok (.iload 11, 2) := by decide +kernel
theorem tX5_replay_68 {d : Nat} {l0 l1 l2 l3 l4 l5 l6 l7 l8 l9 l10 l12 l13 : Option Value} {v0 v1 : Value} {x : Int32} {m : jmM} {Q : Option Value → jmM → Prop} : AW d 71 68 [l0, l1, l2, l3, l4, l5, l6, l7, l8, l9, l10, some (.int x), l12, l13] [v0, v1] m Q ↔ AW d 71 70 [l0, l1, l2, l3, l4, l5, l6, l7, l8, l9, l10, some (.int x), l12, l13] [.int x, v0, v1] m Q := A_iload hB_X5_replay dX5_replay_68 rfl
theorem dX5_replay_70 : decode cX5_replay 70 = .ok (.iaload, 1) := by decide +kernel
theorem tX5_replay_70 {d : Nat} {l0 l1 l2 l3 l4 l5 l6 l7 l8 l9 l10 l11 l12 l13 : Option Value} {v2 : Value} {i : Int32} {a : Nat} {m : jmM} {Q : Option Value → jmM → Prop} : AW d 71 70 [l0, l1, l2, l3, l4, l5, l6, l7, l8, l9, l10, l11, l12, l13] [.int i, .ref a, v2] m Q ↔ (((mS m a).1 = 20 ∨ a = jScr) ∧ jIx i (mS m a).2) ∧ AW d 71 71 [l0, l1, l2, l3, l4, l5, l6, l7, l8, l9, l10, l11, l12, l13] [.int (mI m a (jx i)), v2] m Q := A_iaload hB_X5_replay dX5_replay_70
theorem dX5_replay_71 : decode cX5_replay 71 = .ok (.i2l, 1) := by decide +kernel
theorem tX5_replay_71 {d : Nat} {l0 l1 l2 l3 l4 l5 l6 l7 l8 l9 l10 l11 l12 l13 : Option Value} {v1 : Value} {x : Int32} {m : jmM} {Q : Option Value → jmM → Prop} : AW d 71 71 [l0, l1, l2, l3, l4, l5, l6, l7, l8, l9, l10, l11, l12, l13] [.int x, v1] m Q ↔ AW d 71 72 [l0, l1, l2, l3, l4, l5, l6, l7, l8, l9, l10, l11, l12, l13] [.long x.toInt64, v1] m Q := A_i2l hB_X5_replay dX5_replay_71
theorem dX5_replay_72 : decode cX5_replay 72 = .ok (.lload 8, 2) := by decide +kernel
theorem tX5_replay_72 {d : Nat} {l0 l1 l2 l3 l4 l5 l6 l7 l9 l10 l11 l12 l13 : Option Value} {v0 v1 : Value} {x : Int64} {m : jmM} {Q : Option Value → jmM → Prop} : AW d 71 72 [l0, l1, l2, l3, l4, l5, l6, l7, some (.long x), l9, l10, l11, l12, l13] [v0, v1] m Q ↔ AW d 71 74 [l0, l1, l2, l3, l4, l5, l6, l7, some (.long x), l9, l10, l11, l12, l13] [.long x, v0, v1] m Q := A_lload hB_X5_replay dX5_replay_72 rfl
theorem dX5_replay_74 : decode cX5_replay 74 = .ok (.iload 4, 2) := by decide +kernel
theorem tX5_replay_74 {d : Nat} {l0 l1 l2 l3 l5 l6 l7 l8 l9 l10 l11 l12 l13 : Option Value} {v0 v1 v2 : Value} {x : Int32} {m : jmM} {Q : Option Value → jmM → Prop} : AW d 71 74 [l0, l1, l2, l3, some (.int x), l5, l6, l7, l8, l9, l10, l11, l12, l13] [v0, v1, v2] m Q ↔ AW d 71 76 [l0, l1, l2, l3, some (.int x), l5, l6, l7, l8, l9, l10, l11, l12, l13] [.int x, v0, v1, v2] m Q := A_iload hB_X5_replay dX5_replay_74 rfl
theorem dX5_replay_76 : decode cX5_replay 76 = .ok (.i2l, 1) := by decide +kernel
theorem tX5_replay_76 {d : Nat} {l0 l1 l2 l3 l4 l5 l6 l7 l8 l9 l10 l11 l12 l13 : Option Value} {v1 v2 v3 : Value} {x : Int32} {m : jmM} {Q : Option Value → jmM → Prop} : AW d 71 76 [l0, l1, l2, l3, l4, l5, l6, l7, l8, l9, l10, l11, l12, l13] [.int x, v1, v2, v3] m Q ↔ AW d 71 77 [l0, l1, l2, l3, l4, l5, l6, l7, l8, l9, l10, l11, l12, l13] [.long x.toInt64, v1, v2, v3] m Q := A_i2l hB_X5_replay dX5_replay_76
theorem dX5_replay_77 : decode cX5_replay 77 = .ok (.invokestatic 187, 3) := by decide +kernel
theorem tX5_replay_77 {d : Nat} {l0 l1 l2 l3 l4 l5 l6 l7 l8 l9 l10 l11 l12 l13 : Option Value} {y0 y1 y2 y3 : Value} {m : jmM} {Q : Option Value → jmM → Prop} : AW d 71 77 [l0, l1, l2, l3, l4, l5, l6, l7, l8, l9, l10, l11, l12, l13] [y0, y1, y2, y3] m Q ↔ CC d 187 [y3, y2, y1, y0] m (jK d 71 80 [l0, l1, l2, l3, l4, l5, l6, l7, l8, l9, l10, l11, l12, l13] [] Q) := A_callS4 hB_X5_replay dX5_replay_77 hO_X5_replay fS_5_187 ⟨Nat.le_of_ble_eq_true rfl, Nat.le_of_ble_eq_true rfl⟩ rfl rfl
theorem dX5_replay_80 : decode cX5_replay 80 = .ok (.lstore 12, 2) := by decide +kernel
theorem tX5_replay_80 {d : Nat} {l0 l1 l2 l3 l4 l5 l6 l7 l8 l9 l10 l11 l12 l13 : Option Value} {x : Int64} {m : jmM} {Q : Option Value → jmM → Prop} : AW d 71 80 [l0, l1, l2, l3, l4, l5, l6, l7, l8, l9, l10, l11, l12, l13] [.long x] m Q ↔ AW d 71 82 [l0, l1, l2, l3, l4, l5, l6, l7, l8, l9, l10, jc1 l11, some (.long x), none] [] m Q := A_lstore hB_X5_replay dX5_replay_80 (Nat.le_of_ble_eq_true rfl) rfl
theorem dX5_replay_82 : decode cX5_replay 82 = .ok (.aload 5, 2) := by decide +kernel
theorem tX5_replay_82 {d : Nat} {l0 l1 l2 l3 l4 l6 l7 l8 l9 l10 l11 l12 l13 : Option Value} {x : Nat} {m : jmM} {Q : Option Value → jmM → Prop} : AW d 71 82 [l0, l1, l2, l3, l4, some (.ref x), l6, l7, l8, l9, l10, l11, l12, l13] [] m Q ↔ AW d 71 84 [l0, l1, l2, l3, l4, some (.ref x), l6, l7, l8, l9, l10, l11, l12, l13] [.ref x] m Q := A_aload hB_X5_replay dX5_replay_82 rfl
theorem tX5_replay_82q {d : Nat} {l0 l1 l2 l3 l4 l6 l7 l8 l9 l10 l11 l12 l13 : Option Value} {x : Option Nat} {m : jmM} {Q : Option Value → jmM → Prop} : AW d 71 82 [l0, l1, l2, l3, l4, some (va_rf x), l6, l7, l8, l9, l10, l11, l12, l13] [] m Q ↔ AW d 71 84 [l0, l1, l2, l3, l4, some (va_rf x), l6, l7, l8, l9, l10, l11, l12, l13] [va_rf x] m Q := A_aloadq hB_X5_replay dX5_replay_82 rfl
theorem dX5_replay_84 : decode cX5_replay 84 = .ok (.iload 11, 2) := by decide +kernel
theorem tX5_replay_84 {d : Nat} {l0 l1 l2 l3 l4 l5 l6 l7 l8 l9 l10 l12 l13 : Option Value} {v0 : Value} {x : Int32} {m : jmM} {Q : Option Value → jmM → Prop} : AW d 71 84 [l0, l1, l2, l3, l4, l5, l6, l7, l8, l9, l10, some (.int x), l12, l13] [v0] m Q ↔ AW d 71 86 [l0, l1, l2, l3, l4, l5, l6, l7, l8, l9, l10, some (.int x), l12, l13] [.int x, v0] m Q := A_iload hB_X5_replay dX5_replay_84 rfl
theorem dX5_replay_86 : decode cX5_replay 86 = .ok (.lload 12, 2) := by decide +kernel
theorem tX5_replay_86 {d : Nat} {l0 l1 l2 l3 l4 l5 l6 l7 l8 l9 l10 l11 l13 : Option Value} {v0 v1 : Value} {x : Int64} {m : jmM} {Q : Option Value → jmM → Prop} : AW d 71 86 [l0, l1, l2, l3, l4, l5, l6, l7, l8, l9, l10, l11, some (.long x), l13] [v0, v1] m Q ↔ AW d 71 88 [l0, l1, l2, l3, l4, l5, l6, l7, l8, l9, l10, l11, some (.long x), l13] [.long x, v0, v1] m Q := A_lload hB_X5_replay dX5_replay_86 rfl
theorem dX5_replay_88 : decode cX5_replay 88 = .ok (.aload_n 0, 1) := by decide +kernel
theorem tX5_replay_88 {d : Nat} {l1 l2 l3 l4 l5 l6 l7 l8 l9 l10 l11 l12 l13 : Option Value} {v0 v1 v2 : Value} {x : Nat} {m : jmM} {Q : Option Value → jmM → Prop} : AW d 71 88 [some (.ref x), l1, l2, l3, l4, l5, l6, l7, l8, l9, l10, l11, l12, l13] [v0, v1, v2] m Q ↔ AW d 71 89 [some (.ref x), l1, l2, l3, l4, l5, l6, l7, l8, l9, l10, l11, l12, l13] [.ref x, v0, v1, v2] m Q := A_aload_n hB_X5_replay dX5_replay_88 rfl
theorem dX5_replay_89 : decode cX5_replay 89 = .ok (.getfield 64, 3) := by decide +kernel
theorem tX5_replay_89 {d : Nat} {l0 l1 l2 l3 l4 l5 l6 l7 l8 l9 l10 l11 l12 l13 : Option Value} {v1 v2 v3 : Value} {a : Nat} {m : jmM} {Q : Option Value → jmM → Prop} : AW d 71 89 [l0, l1, l2, l3, l4, l5, l6, l7, l8, l9, l10, l11, l12, l13] [.ref a, v1, v2, v3] m Q ↔ (mS m a).1 = 5 ∧ AW d 71 92 [l0, l1, l2, l3, l4, l5, l6, l7, l8, l9, l10, l11, l12, l13] [va_rf (mR m a 15), v1, v2, v3] m Q := A_getfield (f := fun m a => va_rf (mR m a 15)) hB_X5_replay dX5_replay_89 hO_X5_replay fF_5_64 rfl
theorem dX5_replay_92 : decode cX5_replay 92 = .ok (.iload 11, 2) := by decide +kernel
theorem tX5_replay_92 {d : Nat} {l0 l1 l2 l3 l4 l5 l6 l7 l8 l9 l10 l12 l13 : Option Value} {v0 v1 v2 v3 : Value} {x : Int32} {m : jmM} {Q : Option Value → jmM → Prop} : AW d 71 92 [l0, l1, l2, l3, l4, l5, l6, l7, l8, l9, l10, some (.int x), l12, l13] [v0, v1, v2, v3] m Q ↔ AW d 71 94 [l0, l1, l2, l3, l4, l5, l6, l7, l8, l9, l10, some (.int x), l12, l13] [.int x, v0, v1, v2, v3] m Q := A_iload hB_X5_replay dX5_replay_92 rfl
theorem dX5_replay_94 : decode cX5_replay 94 = .ok (.iaload, 1) := by decide +kernel
theorem tX5_replay_94 {d : Nat} {l0 l1 l2 l3 l4 l5 l6 l7 l8 l9 l10 l11 l12 l13 : Option Value} {v2 v3 v4 : Value} {i : Int32} {a : Nat} {m : jmM} {Q : Option Value → jmM → Prop} : AW d 71 94 [l0, l1, l2, l3, l4, l5, l6, l7, l8, l9, l10, l11, l12, l13] [.int i, .ref a, v2, v3, v4] m Q ↔ (((mS m a).1 = 20 ∨ a = jScr) ∧ jIx i (mS m a).2) ∧ AW d 71 95 [l0, l1, l2, l3, l4, l5, l6, l7, l8, l9, l10, l11, l12, l13] [.int (mI m a (jx i)), v2, v3, v4] m Q := A_iaload hB_X5_replay dX5_replay_94
theorem dX5_replay_95 : decode cX5_replay 95 = .ok (.i2l, 1) := by decide +kernel
theorem tX5_replay_95 {d : Nat} {l0 l1 l2 l3 l4 l5 l6 l7 l8 l9 l10 l11 l12 l13 : Option Value} {v1 v2 v3 : Value} {x : Int32} {m : jmM} {Q : Option Value → jmM → Prop} : AW d 71 95 [l0, l1, l2, l3, l4, l5, l6, l7, l8, l9, l10, l11, l12, l13] [.int x, v1, v2, v3] m Q ↔ AW d 71 96 [l0, l1, l2, l3, l4, l5, l6, l7, l8, l9, l10, l11, l12, l13] [.long x.toInt64, v1, v2, v3] m Q := A_i2l hB_X5_replay dX5_replay_95
theorem dX5_replay_96 : decode cX5_replay 96 = .ok (.invokestatic 223, 3) := by decide +kernel
theorem tX5_replay_96 {d : Nat} {l0 l1 l2 l3 l4 l5 l6 l7 l8 l9 l10 l11 l12 l13 : Option Value} {v2 v3 : Value} {y0 y1 : Value} {m : jmM} {Q : Option Value → jmM → Prop} : AW d 71 96 [l0, l1, l2, l3, l4, l5, l6, l7, l8, l9, l10, l11, l12, l13] [y0, y1, v2, v3] m Q ↔ CC d 186 [y1, y0] m (jK d 71 99 [l0, l1, l2, l3, l4, l5, l6, l7, l8, l9, l10, l11, l12, l13] [v2, v3] Q) := A_callS4 hB_X5_replay dX5_replay_96 hO_X5_replay fS_5_223 ⟨Nat.le_of_ble_eq_true rfl, Nat.le_of_ble_eq_true rfl⟩ rfl rfl
theorem dX5_replay_99 : decode cX5_replay 99 = .ok (.lastore, 1) := by decide +kernel
theorem tX5_replay_99 {d : Nat} {l0 l1 l2 l3 l4 l5 l6 l7 l8 l9 l10 l11 l12 l13 : Option Value} {x : Int64} {i : Int32} {a : Nat} {m : jmM} {Q : Option Value → jmM → Prop} : AW d 71 99 [l0, l1, l2, l3, l4, l5, l6, l7, l8, l9, l10, l11, l12, l13] [.long x, .int i, .ref a] m Q ↔ ((mS m a).1 = 21 ∧ jIx i (mS m a).2) ∧ AW d 71 100 [l0, l1, l2, l3, l4, l5, l6, l7, l8, l9, l10, l11, l12, l13] [] (cL m a (jup (mL m a) (jx i) x)) Q := A_lastore hB_X5_replay dX5_replay_99
theorem dX5_replay_100 : decode cX5_replay 100 = .ok (.lload 6, 2) := by decide +kernel
theorem tX5_replay_100 {d : Nat} {l0 l1 l2 l3 l4 l5 l7 l8 l9 l10 l11 l12 l13 : Option Value} {x : Int64} {m : jmM} {Q : Option Value → jmM → Prop} : AW d 71 100 [l0, l1, l2, l3, l4, l5, some (.long x), l7, l8, l9, l10, l11, l12, l13] [] m Q ↔ AW d 71 102 [l0, l1, l2, l3, l4, l5, some (.long x), l7, l8, l9, l10, l11, l12, l13] [.long x] m Q := A_lload hB_X5_replay dX5_replay_100 rfl
theorem dX5_replay_102 : decode cX5_replay 102 = .ok (.lload 12, 2) := by decide +kernel
theorem tX5_replay_102 {d : Nat} {l0 l1 l2 l3 l4 l5 l6 l7 l8 l9 l10 l11 l13 : Option Value} {v0 : Value} {x : Int64} {m : jmM} {Q : Option Value → jmM → Prop} : AW d 71 102 [l0, l1, l2, l3, l4, l5, l6, l7, l8, l9, l10, l11, some (.long x), l13] [v0] m Q ↔ AW d 71 104 [l0, l1, l2, l3, l4, l5, l6, l7, l8, l9, l10, l11, some (.long x), l13] [.long x, v0] m Q := A_lload hB_X5_replay dX5_replay_102 rfl
theorem dX5_replay_104 : decode cX5_replay 104 = .ok (.lsub, 1) := by decide +kernel
theorem tX5_replay_104 {d : Nat} {l0 l1 l2 l3 l4 l5 l6 l7 l8 l9 l10 l11 l12 l13 : Option Value} {x y : Int64} {m : jmM} {Q : Option Value → jmM → Prop} : AW d 71 104 [l0, l1, l2, l3, l4, l5, l6, l7, l8, l9, l10, l11, l12, l13] [.long y, .long x] m Q ↔ AW d 71 105 [l0, l1, l2, l3, l4, l5, l6, l7, l8, l9, l10, l11, l12, l13] [.long (x - y)] m Q := A_lsub hB_X5_replay dX5_replay_104
theorem dX5_replay_105 : decode cX5_replay 105 = .ok (.lstore 6, 2) := by decide +kernel
theorem tX5_replay_105 {d : Nat} {l0 l1 l2 l3 l4 l5 l6 l7 l8 l9 l10 l11 l12 l13 : Option Value} {x : Int64} {m : jmM} {Q : Option Value → jmM → Prop} : AW d 71 105 [l0, l1, l2, l3, l4, l5, l6, l7, l8, l9, l10, l11, l12, l13] [.long x] m Q ↔ AW d 71 107 [l0, l1, l2, l3, l4, jc1 l5, some (.long x), none, l8, l9, l10, l11, l12, l13] [] m Q := A_lstore hB_X5_replay dX5_replay_105 (Nat.le_of_ble_eq_true rfl) rfl
theorem dX5_replay_107 : decode cX5_replay 107 = .ok (.lload 8, 2) := by decide +kernel
theorem tX5_replay_107 {d : Nat} {l0 l1 l2 l3 l4 l5 l6 l7 l9 l10 l11 l12 l13 : Option Value} {x : Int64} {m : jmM} {Q : Option Value → jmM → Prop} : AW d 71 107 [l0, l1, l2, l3, l4, l5, l6, l7, some (.long x), l9, l10, l11, l12, l13] [] m Q ↔ AW d 71 109 [l0, l1, l2, l3, l4, l5, l6, l7, some (.long x), l9, l10, l11, l12, l13] [.long x] m Q := A_lload hB_X5_replay dX5_replay_107 rfl
theorem dX5_replay_109 : decode cX5_replay 109 = .ok (.aload_n 0, 1) := by decide +kernel
theorem tX5_replay_109 {d : Nat} {l1 l2 l3 l4 l5 l6 l7 l8 l9 l10 l11 l12 l13 : Option Value} {v0 : Value} {x : Nat} {m : jmM} {Q : Option Value → jmM → Prop} : AW d 71 109 [some (.ref x), l1, l2, l3, l4, l5, l6, l7, l8, l9, l10, l11, l12, l13] [v0] m Q ↔ AW d 71 110 [some (.ref x), l1, l2, l3, l4, l5, l6, l7, l8, l9, l10, l11, l12, l13] [.ref x, v0] m Q := A_aload_n hB_X5_replay dX5_replay_109 rfl
theorem dX5_replay_110 : decode cX5_replay 110 = .ok (.getfield 64, 3) := by decide +kernel
theorem tX5_replay_110 {d : Nat} {l0 l1 l2 l3 l4 l5 l6 l7 l8 l9 l10 l11 l12 l13 : Option Value} {v1 : Value} {a : Nat} {m : jmM} {Q : Option Value → jmM → Prop} : AW d 71 110 [l0, l1, l2, l3, l4, l5, l6, l7, l8, l9, l10, l11, l12, l13] [.ref a, v1] m Q ↔ (mS m a).1 = 5 ∧ AW d 71 113 [l0, l1, l2, l3, l4, l5, l6, l7, l8, l9, l10, l11, l12, l13] [va_rf (mR m a 15), v1] m Q := A_getfield (f := fun m a => va_rf (mR m a 15)) hB_X5_replay dX5_replay_110 hO_X5_replay fF_5_64 rfl
theorem dX5_replay_113 : decode cX5_replay 113 = .ok (.iload 11, 2) := by decide +kernel
theorem tX5_replay_113 {d : Nat} {l0 l1 l2 l3 l4 l5 l6 l7 l8 l9 l10 l12 l13 : Option Value} {v0 v1 : Value} {x : Int32} {m : jmM} {Q : Option Value → jmM → Prop} : AW d 71 113 [l0, l1, l2, l3, l4, l5, l6, l7, l8, l9, l10, some (.int x), l12, l13] [v0, v1] m Q ↔ AW d 71 115 [l0, l1, l2, l3, l4, l5, l6, l7, l8, l9, l10, some (.int x), l12, l13] [.int x, v0, v1] m Q := A_iload hB_X5_replay dX5_replay_113 rfl
theorem dX5_replay_115 : decode cX5_replay 115 = .ok (.iaload, 1) := by decide +kernel
theorem tX5_replay_115 {d : Nat} {l0 l1 l2 l3 l4 l5 l6 l7 l8 l9 l10 l11 l12 l13 : Option Value} {v2 : Value} {i : Int32} {a : Nat} {m : jmM} {Q : Option Value → jmM → Prop} : AW d 71 115 [l0, l1, l2, l3, l4, l5, l6, l7, l8, l9, l10, l11, l12, l13] [.int i, .ref a, v2] m Q ↔ (((mS m a).1 = 20 ∨ a = jScr) ∧ jIx i (mS m a).2) ∧ AW d 71 116 [l0, l1, l2, l3, l4, l5, l6, l7, l8, l9, l10, l11, l12, l13] [.int (mI m a (jx i)), v2] m Q := A_iaload hB_X5_replay dX5_replay_115
theorem dX5_replay_116 : decode cX5_replay 116 = .ok (.i2l, 1) := by decide +kernel
theorem tX5_replay_116 {d : Nat} {l0 l1 l2 l3 l4 l5 l6 l7 l8 l9 l10 l11 l12 l13 : Option Value} {v1 : Value} {x : Int32} {m : jmM} {Q : Option Value → jmM → Prop} : AW d 71 116 [l0, l1, l2, l3, l4, l5, l6, l7, l8, l9, l10, l11, l12, l13] [.int x, v1] m Q ↔ AW d 71 117 [l0, l1, l2, l3, l4, l5, l6, l7, l8, l9, l10, l11, l12, l13] [.long x.toInt64, v1] m Q := A_i2l hB_X5_replay dX5_replay_116
theorem dX5_replay_117 : decode cX5_replay 117 = .ok (.lsub, 1) := by decide +kernel
theorem tX5_replay_117 {d : Nat} {l0 l1 l2 l3 l4 l5 l6 l7 l8 l9 l10 l11 l12 l13 : Option Value} {x y : Int64} {m : jmM} {Q : Option Value → jmM → Prop} : AW d 71 117 [l0, l1, l2, l3, l4, l5, l6, l7, l8, l9, l10, l11, l12, l13] [.long y, .long x] m Q ↔ AW d 71 118 [l0, l1, l2, l3, l4, l5, l6, l7, l8, l9, l10, l11, l12, l13] [.long (x - y)] m Q := A_lsub hB_X5_replay dX5_replay_117
theorem dX5_replay_118 : decode cX5_replay 118 = .ok (.lstore 8, 2) := by decide +kernel
theorem tX5_replay_118 {d : Nat} {l0 l1 l2 l3 l4 l5 l6 l7 l8 l9 l10 l11 l12 l13 : Option Value} {x : Int64} {m : jmM} {Q : Option Value → jmM → Prop} : AW d 71 118 [l0, l1, l2, l3, l4, l5, l6, l7, l8, l9, l10, l11, l12, l13] [.long x] m Q ↔ AW d 71 120 [l0, l1, l2, l3, l4, l5, l6, jc1 l7, some (.long x), none, l10, l11, l12, l13] [] m Q := A_lstore hB_X5_replay dX5_replay_118 (Nat.le_of_ble_eq_true rfl) rfl
theorem dX5_replay_120 : decode cX5_replay 120 = .ok (.iinc 11 1, 3) := by decide +kernel
theorem tX5_replay_120 {d : Nat} {l0 l1 l2 l3 l4 l5 l6 l7 l8 l9 l10 l12 l13 : Option Value} {x : Int32} {m : jmM} {Q : Option Value → jmM → Prop} : AW d 71 120 [l0, l1, l2, l3, l4, l5, l6, l7, l8, l9, l10, some (.int x), l12, l13] [] m Q ↔ AW d 71 123 [l0, l1, l2, l3, l4, l5, l6, l7, l8, l9, jc1 l10, some (.int (x + 1)), l12, l13] [] m Q := A_iinc hB_X5_replay dX5_replay_120 rfl (Nat.le_of_ble_eq_true rfl) (v := 1) (by decide) rfl
theorem dX5_replay_123 : decode cX5_replay 123 = .ok (.goto (-86), 3) := by decide +kernel
theorem tX5_replay_123 {d : Nat} {l0 l1 l2 l3 l4 l5 l6 l7 l8 l9 l10 l11 l12 l13 : Option Value} {m : jmM} {Q : Option Value → jmM → Prop} : AW d 71 123 [l0, l1, l2, l3, l4, l5, l6, l7, l8, l9, l10, l11, l12, l13] [] m Q ↔ AW d 71 37 [l0, l1, l2, l3, l4, l5, l6, l7, l8, l9, l10, l11, l12, l13] [] m Q := A_goto hB_X5_replay dX5_replay_123 (by decide)
theorem dX5_replay_126 : decode cX5_replay 126 = .ok (.return_, 1) := by decide +kernel
theorem tX5_replay_126 {d : Nat} {l0 l1 l2 l3 l4 l5 l6 l7 l8 l9 l10 l11 l12 l13 : Option Value} {m : jmM} {Q : Option Value → jmM → Prop} : AW d 71 126 [l0, l1, l2, l3, l4, l5, l6, l7, l8, l9, l10, l11, l12, l13] [] m Q ↔ Q none m := A_return hB_X5_replay dX5_replay_126 hR_X5_replay
theorem hB_X5_hasRow : jB 72 = cX5_hasRow := rfl
theorem hO_X5_hasRow : jO 72 = 5 := rfl
theorem hR_X5_hasRow : jRt 72 = (some .boolean) := rfl
theorem nX5_hasRow (d : Nat) (x0 : Nat) (x1 : Int32) (m : jmM) (Q : Option Value → jmM → Prop) : CC (d + 1) 72 [.ref x0, .int x1] m Q ↔ AW d 72 0 [some (.ref x0), some (.int x1)] [] m Q := CC_body (Nat.le_of_ble_eq_true rfl)
theorem dX5_hasRow_0 : decode cX5_hasRow 0 = .ok (.iload_n 1, 1) := by decide +kernel
theorem tX5_hasRow_0 {d : Nat} {l0 : Option Value} {x : Int32} {m : jmM} {Q : Option Value → jmM → Prop} : AW d 72 0 [l0, some (.int x)] [] m Q ↔ AW d 72 1 [l0, some (.int x)] [.int x] m Q := A_iload_n hB_X5_hasRow dX5_hasRow_0 rfl
theorem dX5_hasRow_1 : decode cX5_hasRow 1 = .ok (.ifCond .lt 22, 3) := by decide +kernel
theorem tX5_hasRow_1 {d : Nat} {l0 l1 : Option Value} {x : Int32} {m : jmM} {Q : Option Value → jmM → Prop} : AW d 72 1 [l0, l1] [.int x] m Q ↔ if x < 0 then AW d 72 23 [l0, l1] [] m Q else AW d 72 4 [l0, l1] [] m Q := A_if_lt hB_X5_hasRow dX5_hasRow_1 (by decide)
theorem dX5_hasRow_4 : decode cX5_hasRow 4 = .ok (.iload_n 1, 1) := by decide +kernel
theorem tX5_hasRow_4 {d : Nat} {l0 : Option Value} {x : Int32} {m : jmM} {Q : Option Value → jmM → Prop} : AW d 72 4 [l0, some (.int x)] [] m Q ↔ AW d 72 5 [l0, some (.int x)] [.int x] m Q := A_iload_n hB_X5_hasRow dX5_hasRow_4 rfl
theorem dX5_hasRow_5 : decode cX5_hasRow 5 = .ok (.aload_n 0, 1) := by decide +kernel
theorem tX5_hasRow_5 {d : Nat} {l1 : Option Value} {v0 : Value} {x : Nat} {m : jmM} {Q : Option Value → jmM → Prop} : AW d 72 5 [some (.ref x), l1] [v0] m Q ↔ AW d 72 6 [some (.ref x), l1] [.ref x, v0] m Q := A_aload_n hB_X5_hasRow dX5_hasRow_5 rfl
theorem dX5_hasRow_6 : decode cX5_hasRow 6 = .ok (.getfield 51, 3) := by decide +kernel
theorem tX5_hasRow_6 {d : Nat} {l0 l1 : Option Value} {v1 : Value} {a : Nat} {m : jmM} {Q : Option Value → jmM → Prop} : AW d 72 6 [l0, l1] [.ref a, v1] m Q ↔ (mS m a).1 = 5 ∧ AW d 72 9 [l0, l1] [.int (mI m a 11), v1] m Q := A_getfield (f := fun m a => .int (mI m a 11)) hB_X5_hasRow dX5_hasRow_6 hO_X5_hasRow fF_5_51 rfl
theorem dX5_hasRow_9 : decode cX5_hasRow 9 = .ok (.if_icmp .ge 14, 3) := by decide +kernel
theorem tX5_hasRow_9 {d : Nat} {l0 l1 : Option Value} {x y : Int32} {m : jmM} {Q : Option Value → jmM → Prop} : AW d 72 9 [l0, l1] [.int y, .int x] m Q ↔ if y ≤ x then AW d 72 23 [l0, l1] [] m Q else AW d 72 12 [l0, l1] [] m Q := A_icmp_ge hB_X5_hasRow dX5_hasRow_9 (by decide)
theorem dX5_hasRow_12 : decode cX5_hasRow 12 = .ok (.iload_n 1, 1) := by decide +kernel
theorem tX5_hasRow_12 {d : Nat} {l0 : Option Value} {x : Int32} {m : jmM} {Q : Option Value → jmM → Prop} : AW d 72 12 [l0, some (.int x)] [] m Q ↔ AW d 72 13 [l0, some (.int x)] [.int x] m Q := A_iload_n hB_X5_hasRow dX5_hasRow_12 rfl
theorem dX5_hasRow_13 : decode cX5_hasRow 13 = .ok (.sipush 600, 3) := by decide +kernel
theorem tX5_hasRow_13 {d : Nat} {l0 l1 : Option Value} {v0 : Value} {m : jmM} {Q : Option Value → jmM → Prop} : AW d 72 13 [l0, l1] [v0] m Q ↔ AW d 72 16 [l0, l1] [.int 600, v0] m Q := A_sipush hB_X5_hasRow dX5_hasRow_13 rfl
theorem dX5_hasRow_16 : decode cX5_hasRow 16 = .ok (.if_icmp .ge 7, 3) := by decide +kernel
theorem tX5_hasRow_16 {d : Nat} {l0 l1 : Option Value} {x y : Int32} {m : jmM} {Q : Option Value → jmM → Prop} : AW d 72 16 [l0, l1] [.int y, .int x] m Q ↔ if y ≤ x then AW d 72 23 [l0, l1] [] m Q else AW d 72 19 [l0, l1] [] m Q := A_icmp_ge hB_X5_hasRow dX5_hasRow_16 (by decide)
theorem dX5_hasRow_19 : decode cX5_hasRow 19 = .ok (.iconst 1, 1) := by decide +kernel
theorem tX5_hasRow_19 {d : Nat} {l0 l1 : Option Value} {m : jmM} {Q : Option Value → jmM → Prop} : AW d 72 19 [l0, l1] [] m Q ↔ AW d 72 20 [l0, l1] [.int 1] m Q := A_iconst hB_X5_hasRow dX5_hasRow_19 (by decide)
theorem dX5_hasRow_20 : decode cX5_hasRow 20 = .ok (.goto 4, 3) := by decide +kernel
theorem tX5_hasRow_20 {d : Nat} {l0 l1 : Option Value} {v0 : Value} {m : jmM} {Q : Option Value → jmM → Prop} : AW d 72 20 [l0, l1] [v0] m Q ↔ AW d 72 24 [l0, l1] [v0] m Q := A_goto hB_X5_hasRow dX5_hasRow_20 (by decide)
theorem dX5_hasRow_23 : decode cX5_hasRow 23 = .ok (.iconst 0, 1) := by decide +kernel
theorem tX5_hasRow_23 {d : Nat} {l0 l1 : Option Value} {m : jmM} {Q : Option Value → jmM → Prop} : AW d 72 23 [l0, l1] [] m Q ↔ AW d 72 24 [l0, l1] [.int 0] m Q := A_iconst hB_X5_hasRow dX5_hasRow_23 (by decide)
theorem dX5_hasRow_24 : decode cX5_hasRow 24 = .ok (.ireturn, 1) := by decide +kernel
theorem tX5_hasRow_24 {d : Nat} {l0 l1 : Option Value} {x : Int32} {m : jmM} {Q : Option Value → jmM → Prop} : AW d 72 24 [l0, l1] [.int x] m Q ↔ jBool x ∧ Q (some (.int x)) m := A_zreturn hB_X5_hasRow dX5_hasRow_24 hR_X5_hasRow
theorem hB_X5_how : jB 73 = cX5_how := rfl
theorem hO_X5_how : jO 73 = 5 := rfl
theorem hR_X5_how : jRt 73 = (some .int) := rfl
theorem nX5_how (d : Nat) (x0 : Nat) (m : jmM) (Q : Option Value → jmM → Prop) : CC (d + 1) 73 [.ref x0] m Q ↔ AW d 73 0 [some (.ref x0)] [] m Q := CC_body (Nat.le_of_ble_eq_true rfl)
theorem dX5_how_0 : decode cX5_how 0 = .ok (.aload_n 0, 1) := by decide +kernel
theorem tX5_how_0 {d : Nat} {x : Nat} {m : jmM} {Q : Option Value → jmM → Prop} : AW d 73 0 [some (.ref x)] [] m Q ↔ AW d 73 1 [some (.ref x)] [.ref x] m Q := A_aload_n hB_X5_how dX5_how_0 rfl
theorem dX5_how_1 : decode cX5_how 1 = .ok (.getfield 25, 3) := by decide +kernel
theorem tX5_how_1 {d : Nat} {l0 : Option Value} {a : Nat} {m : jmM} {Q : Option Value → jmM → Prop} : AW d 73 1 [l0] [.ref a] m Q ↔ (mS m a).1 = 5 ∧ AW d 73 4 [l0] [.int (mI m a 3)] m Q := A_getfield (f := fun m a => .int (mI m a 3)) hB_X5_how dX5_how_1 hO_X5_how fF_5_25 rfl
theorem dX5_how_4 : decode cX5_how 4 = .ok (.ireturn, 1) := by decide +kernel
theorem tX5_how_4 {d : Nat} {l0 : Option Value} {x : Int32} {m : jmM} {Q : Option Value → jmM → Prop} : AW d 73 4 [l0] [.int x] m Q ↔ Q (some (.int x)) m := A_ireturn hB_X5_how dX5_how_4 hR_X5_how
theorem hB_X5_rows : jB 74 = cX5_rows := rfl
theorem hO_X5_rows : jO 74 = 5 := rfl
theorem hR_X5_rows : jRt 74 = (some .int) := rfl
theorem nX5_rows (d : Nat) (x0 : Nat) (m : jmM) (Q : Option Value → jmM → Prop) : CC (d + 1) 74 [.ref x0] m Q ↔ AW d 74 0 [some (.ref x0)] [] m Q := CC_body (Nat.le_of_ble_eq_true rfl)
theorem dX5_rows_0 : decode cX5_rows 0 = .ok (.aload_n 0, 1) := by decide +kernel
theorem tX5_rows_0 {d : Nat} {x : Nat} {m : jmM} {Q : Option Value → jmM → Prop} : AW d 74 0 [some (.ref x)] [] m Q ↔ AW d 74 1 [some (.ref x)] [.ref x] m Q := A_aload_n hB_X5_rows dX5_rows_0 rfl
theorem dX5_rows_1 : decode cX5_rows 1 = .ok (.getfield 51, 3) := by decide +kernel
theorem tX5_rows_1 {d : Nat} {l0 : Option Value} {a : Nat} {m : jmM} {Q : Option Value → jmM → Prop} : AW d 74 1 [l0] [.ref a] m Q ↔ (mS m a).1 = 5 ∧ AW d 74 4 [l0] [.int (mI m a 11)] m Q := A_getfield (f := fun m a => .int (mI m a 11)) hB_X5_rows dX5_rows_1 hO_X5_rows fF_5_51 rfl
theorem dX5_rows_4 : decode cX5_rows 4 = .ok (.ireturn, 1) := by decide +kernel
theorem tX5_rows_4 {d : Nat} {l0 : Option Value} {x : Int32} {m : jmM} {Q : Option Value → jmM → Prop} : AW d 74 4 [l0] [.int x] m Q ↔ Q (some (.int x)) m := A_ireturn hB_X5_rows dX5_rows_4 hR_X5_rows
theorem hB_X5_left : jB 75 = cX5_left := rfl
theorem hO_X5_left : jO 75 = 5 := rfl
theorem hR_X5_left : jRt 75 = (some .int) := rfl
theorem nX5_left (d : Nat) (x0 : Nat) (m : jmM) (Q : Option Value → jmM → Prop) : CC (d + 1) 75 [.ref x0] m Q ↔ AW d 75 0 [some (.ref x0)] [] m Q := CC_body (Nat.le_of_ble_eq_true rfl)
theorem dX5_left_0 : decode cX5_left 0 = .ok (.aload_n 0, 1) := by decide +kernel
theorem tX5_left_0 {d : Nat} {x : Nat} {m : jmM} {Q : Option Value → jmM → Prop} : AW d 75 0 [some (.ref x)] [] m Q ↔ AW d 75 1 [some (.ref x)] [.ref x] m Q := A_aload_n hB_X5_left dX5_left_0 rfl
theorem dX5_left_1 : decode cX5_left 1 = .ok (.getfield 33, 3) := by decide +kernel
theorem tX5_left_1 {d : Nat} {l0 : Option Value} {a : Nat} {m : jmM} {Q : Option Value → jmM → Prop} : AW d 75 1 [l0] [.ref a] m Q ↔ (mS m a).1 = 5 ∧ AW d 75 4 [l0] [.int (mI m a 5)] m Q := A_getfield (f := fun m a => .int (mI m a 5)) hB_X5_left dX5_left_1 hO_X5_left fF_5_33 rfl
theorem dX5_left_4 : decode cX5_left 4 = .ok (.ireturn, 1) := by decide +kernel
theorem tX5_left_4 {d : Nat} {l0 : Option Value} {x : Int32} {m : jmM} {Q : Option Value → jmM → Prop} : AW d 75 4 [l0] [.int x] m Q ↔ Q (some (.int x)) m := A_ireturn hB_X5_left dX5_left_4 hR_X5_left
theorem hB_X5_wide : jB 76 = cX5_wide := rfl
theorem hO_X5_wide : jO 76 = 5 := rfl
theorem hR_X5_wide : jRt 76 = (some .int) := rfl
theorem nX5_wide (d : Nat) (x0 : Nat) (m : jmM) (Q : Option Value → jmM → Prop) : CC (d + 1) 76 [.ref x0] m Q ↔ AW d 76 0 [some (.ref x0)] [] m Q := CC_body (Nat.le_of_ble_eq_true rfl)
theorem dX5_wide_0 : decode cX5_wide 0 = .ok (.aload_n 0, 1) := by decide +kernel
theorem tX5_wide_0 {d : Nat} {x : Nat} {m : jmM} {Q : Option Value → jmM → Prop} : AW d 76 0 [some (.ref x)] [] m Q ↔ AW d 76 1 [some (.ref x)] [.ref x] m Q := A_aload_n hB_X5_wide dX5_wide_0 rfl
theorem dX5_wide_1 : decode cX5_wide 1 = .ok (.getfield 36, 3) := by decide +kernel
theorem tX5_wide_1 {d : Nat} {l0 : Option Value} {a : Nat} {m : jmM} {Q : Option Value → jmM → Prop} : AW d 76 1 [l0] [.ref a] m Q ↔ (mS m a).1 = 5 ∧ AW d 76 4 [l0] [.int (mI m a 6)] m Q := A_getfield (f := fun m a => .int (mI m a 6)) hB_X5_wide dX5_wide_1 hO_X5_wide fF_5_36 rfl
theorem dX5_wide_4 : decode cX5_wide 4 = .ok (.ireturn, 1) := by decide +kernel
theorem tX5_wide_4 {d : Nat} {l0 : Option Value} {x : Int32} {m : jmM} {Q : Option Value → jmM → Prop} : AW d 76 4 [l0] [.int x] m Q ↔ Q (some (.int x)) m := A_ireturn hB_X5_wide dX5_wide_4 hR_X5_wide
theorem hB_X5_heat : jB 77 = cX5_heat := rfl
theorem hO_X5_heat : jO 77 = 5 := rfl
theorem hR_X5_heat : jRt 77 = (some .int) := rfl
theorem nX5_heat (d : Nat) (x0 : Nat) (m : jmM) (Q : Option Value → jmM → Prop) : CC (d + 1) 77 [.ref x0] m Q ↔ AW d 77 0 [some (.ref x0)] [] m Q := CC_body (Nat.le_of_ble_eq_true rfl)
theorem dX5_heat_0 : decode cX5_heat 0 = .ok (.aload_n 0, 1) := by decide +kernel
theorem tX5_heat_0 {d : Nat} {x : Nat} {m : jmM} {Q : Option Value → jmM → Prop} : AW d 77 0 [some (.ref x)] [] m Q ↔ AW d 77 1 [some (.ref x)] [.ref x] m Q := A_aload_n hB_X5_heat dX5_heat_0 rfl
theorem dX5_heat_1 : decode cX5_heat 1 = .ok (.getfield 39, 3) := by decide +kernel
theorem tX5_heat_1 {d : Nat} {l0 : Option Value} {a : Nat} {m : jmM} {Q : Option Value → jmM → Prop} : AW d 77 1 [l0] [.ref a] m Q ↔ (mS m a).1 = 5 ∧ AW d 77 4 [l0] [.int (mI m a 7)] m Q := A_getfield (f := fun m a => .int (mI m a 7)) hB_X5_heat dX5_heat_1 hO_X5_heat fF_5_39 rfl
theorem dX5_heat_4 : decode cX5_heat 4 = .ok (.ireturn, 1) := by decide +kernel
theorem tX5_heat_4 {d : Nat} {l0 : Option Value} {x : Int32} {m : jmM} {Q : Option Value → jmM → Prop} : AW d 77 4 [l0] [.int x] m Q ↔ Q (some (.int x)) m := A_ireturn hB_X5_heat dX5_heat_4 hR_X5_heat
theorem hB_X5_pull : jB 78 = cX5_pull := rfl
theorem hO_X5_pull : jO 78 = 5 := rfl
theorem hR_X5_pull : jRt 78 = (some .int) := rfl
theorem nX5_pull (d : Nat) (x0 : Nat) (m : jmM) (Q : Option Value → jmM → Prop) : CC (d + 1) 78 [.ref x0] m Q ↔ AW d 78 0 [some (.ref x0)] [] m Q := CC_body (Nat.le_of_ble_eq_true rfl)
theorem dX5_pull_0 : decode cX5_pull 0 = .ok (.aload_n 0, 1) := by decide +kernel
theorem tX5_pull_0 {d : Nat} {x : Nat} {m : jmM} {Q : Option Value → jmM → Prop} : AW d 78 0 [some (.ref x)] [] m Q ↔ AW d 78 1 [some (.ref x)] [.ref x] m Q := A_aload_n hB_X5_pull dX5_pull_0 rfl
theorem dX5_pull_1 : decode cX5_pull 1 = .ok (.getfield 42, 3) := by decide +kernel
theorem tX5_pull_1 {d : Nat} {l0 : Option Value} {a : Nat} {m : jmM} {Q : Option Value → jmM → Prop} : AW d 78 1 [l0] [.ref a] m Q ↔ (mS m a).1 = 5 ∧ AW d 78 4 [l0] [.int (mI m a 8)] m Q := A_getfield (f := fun m a => .int (mI m a 8)) hB_X5_pull dX5_pull_1 hO_X5_pull fF_5_42 rfl
theorem dX5_pull_4 : decode cX5_pull 4 = .ok (.ireturn, 1) := by decide +kernel
theorem tX5_pull_4 {d : Nat} {l0 : Option Value} {x : Int32} {m : jmM} {Q : Option Value → jmM → Prop} : AW d 78 4 [l0] [.int x] m Q ↔ Q (some (.int x)) m := A_ireturn hB_X5_pull dX5_pull_4 hR_X5_pull
theorem hB_X5_length : jB 79 = cX5_length := rfl
theorem hO_X5_length : jO 79 = 5 := rfl
theorem hR_X5_length : jRt 79 = (some .int) := rfl
theorem nX5_length (d : Nat) (x0 : Nat) (m : jmM) (Q : Option Value → jmM → Prop) : CC (d + 1) 79 [.ref x0] m Q ↔ AW d 79 0 [some (.ref x0)] [] m Q := CC_body (Nat.le_of_ble_eq_true rfl)
theorem dX5_length_0 : decode cX5_length 0 = .ok (.aload_n 0, 1) := by decide +kernel
theorem tX5_length_0 {d : Nat} {x : Nat} {m : jmM} {Q : Option Value → jmM → Prop} : AW d 79 0 [some (.ref x)] [] m Q ↔ AW d 79 1 [some (.ref x)] [.ref x] m Q := A_aload_n hB_X5_length dX5_length_0 rfl
theorem dX5_length_1 : decode cX5_length 1 = .ok (.getfield 45, 3) := by decide +kernel
theorem tX5_length_1 {d : Nat} {l0 : Option Value} {a : Nat} {m : jmM} {Q : Option Value → jmM → Prop} : AW d 79 1 [l0] [.ref a] m Q ↔ (mS m a).1 = 5 ∧ AW d 79 4 [l0] [.int (mI m a 9)] m Q := A_getfield (f := fun m a => .int (mI m a 9)) hB_X5_length dX5_length_1 hO_X5_length fF_5_45 rfl
theorem dX5_length_4 : decode cX5_length 4 = .ok (.ireturn, 1) := by decide +kernel
theorem tX5_length_4 {d : Nat} {l0 : Option Value} {x : Int32} {m : jmM} {Q : Option Value → jmM → Prop} : AW d 79 4 [l0] [.int x] m Q ↔ Q (some (.int x)) m := A_ireturn hB_X5_length dX5_length_4 hR_X5_length
theorem hB_X5_minutes : jB 80 = cX5_minutes := rfl
theorem hO_X5_minutes : jO 80 = 5 := rfl
theorem hR_X5_minutes : jRt 80 = (some .int) := rfl
theorem nX5_minutes (d : Nat) (x0 : Nat) (m : jmM) (Q : Option Value → jmM → Prop) : CC (d + 1) 80 [.ref x0] m Q ↔ AW d 80 0 [some (.ref x0)] [] m Q := CC_body (Nat.le_of_ble_eq_true rfl)
theorem dX5_minutes_0 : decode cX5_minutes 0 = .ok (.aload_n 0, 1) := by decide +kernel
theorem tX5_minutes_0 {d : Nat} {x : Nat} {m : jmM} {Q : Option Value → jmM → Prop} : AW d 80 0 [some (.ref x)] [] m Q ↔ AW d 80 1 [some (.ref x)] [.ref x] m Q := A_aload_n hB_X5_minutes dX5_minutes_0 rfl
theorem dX5_minutes_1 : decode cX5_minutes 1 = .ok (.getfield 48, 3) := by decide +kernel
theorem tX5_minutes_1 {d : Nat} {l0 : Option Value} {a : Nat} {m : jmM} {Q : Option Value → jmM → Prop} : AW d 80 1 [l0] [.ref a] m Q ↔ (mS m a).1 = 5 ∧ AW d 80 4 [l0] [.int (mI m a 10)] m Q := A_getfield (f := fun m a => .int (mI m a 10)) hB_X5_minutes dX5_minutes_1 hO_X5_minutes fF_5_48 rfl
theorem dX5_minutes_4 : decode cX5_minutes 4 = .ok (.ireturn, 1) := by decide +kernel
theorem tX5_minutes_4 {d : Nat} {l0 : Option Value} {x : Int32} {m : jmM} {Q : Option Value → jmM → Prop} : AW d 80 4 [l0] [.int x] m Q ↔ Q (some (.int x)) m := A_ireturn hB_X5_minutes dX5_minutes_4 hR_X5_minutes
theorem hB_X5_wideOf : jB 81 = cX5_wideOf := rfl
theorem hO_X5_wideOf : jO 81 = 5 := rfl
theorem hR_X5_wideOf : jRt 81 = (some .int) := rfl
theorem nX5_wideOf (d : Nat) (x0 : Nat) (x1 : Int32) (m : jmM) (Q : Option Value → jmM → Prop) : CC (d + 1) 81 [.ref x0, .int x1] m Q ↔ AW d 81 0 [some (.ref x0), some (.int x1)] [] m Q := CC_body (Nat.le_of_ble_eq_true rfl)
theorem dX5_wideOf_0 : decode cX5_wideOf 0 = .ok (.aload_n 0, 1) := by decide +kernel
theorem tX5_wideOf_0 {d : Nat} {l1 : Option Value} {x : Nat} {m : jmM} {Q : Option Value → jmM → Prop} : AW d 81 0 [some (.ref x), l1] [] m Q ↔ AW d 81 1 [some (.ref x), l1] [.ref x] m Q := A_aload_n hB_X5_wideOf dX5_wideOf_0 rfl
theorem dX5_wideOf_1 : decode cX5_wideOf 1 = .ok (.iload_n 1, 1) := by decide +kernel
theorem tX5_wideOf_1 {d : Nat} {l0 : Option Value} {v0 : Value} {x : Int32} {m : jmM} {Q : Option Value → jmM → Prop} : AW d 81 1 [l0, some (.int x)] [v0] m Q ↔ AW d 81 2 [l0, some (.int x)] [.int x, v0] m Q := A_iload_n hB_X5_wideOf dX5_wideOf_1 rfl
theorem dX5_wideOf_2 : decode cX5_wideOf 2 = .ok (.invokevirtual 161, 3) := by decide +kernel
theorem tX5_wideOf_2 {d : Nat} {l0 l1 : Option Value} {y0 : Value} {a : Nat} {m : jmM} {Q : Option Value → jmM → Prop} : AW d 81 2 [l0, l1] [y0, .ref a] m Q ↔ (mS m a).1 = 5 ∧ CC d 72 [.ref a, y0] m (jK d 81 5 [l0, l1] [] Q) := A_callV hB_X5_wideOf dX5_wideOf_2 hO_X5_wideOf fS_5_161 ⟨Nat.le_of_ble_eq_true rfl, Nat.le_of_ble_eq_true rfl⟩ rfl rfl rfl
theorem dX5_wideOf_5 : decode cX5_wideOf 5 = .ok (.ifCond .eq 12, 3) := by decide +kernel
theorem tX5_wideOf_5 {d : Nat} {l0 l1 : Option Value} {x : Int32} {m : jmM} {Q : Option Value → jmM → Prop} : AW d 81 5 [l0, l1] [.int x] m Q ↔ if x = 0 then AW d 81 17 [l0, l1] [] m Q else AW d 81 8 [l0, l1] [] m Q := A_if_eq hB_X5_wideOf dX5_wideOf_5 (by decide)
theorem dX5_wideOf_8 : decode cX5_wideOf 8 = .ok (.aload_n 0, 1) := by decide +kernel
theorem tX5_wideOf_8 {d : Nat} {l1 : Option Value} {x : Nat} {m : jmM} {Q : Option Value → jmM → Prop} : AW d 81 8 [some (.ref x), l1] [] m Q ↔ AW d 81 9 [some (.ref x), l1] [.ref x] m Q := A_aload_n hB_X5_wideOf dX5_wideOf_8 rfl
theorem dX5_wideOf_9 : decode cX5_wideOf 9 = .ok (.getfield 54, 3) := by decide +kernel
theorem tX5_wideOf_9 {d : Nat} {l0 l1 : Option Value} {a : Nat} {m : jmM} {Q : Option Value → jmM → Prop} : AW d 81 9 [l0, l1] [.ref a] m Q ↔ (mS m a).1 = 5 ∧ AW d 81 12 [l0, l1] [va_rf (mR m a 12)] m Q := A_getfield (f := fun m a => va_rf (mR m a 12)) hB_X5_wideOf dX5_wideOf_9 hO_X5_wideOf fF_5_54 rfl
theorem dX5_wideOf_12 : decode cX5_wideOf 12 = .ok (.iload_n 1, 1) := by decide +kernel
theorem tX5_wideOf_12 {d : Nat} {l0 : Option Value} {v0 : Value} {x : Int32} {m : jmM} {Q : Option Value → jmM → Prop} : AW d 81 12 [l0, some (.int x)] [v0] m Q ↔ AW d 81 13 [l0, some (.int x)] [.int x, v0] m Q := A_iload_n hB_X5_wideOf dX5_wideOf_12 rfl
theorem dX5_wideOf_13 : decode cX5_wideOf 13 = .ok (.iaload, 1) := by decide +kernel
theorem tX5_wideOf_13 {d : Nat} {l0 l1 : Option Value} {i : Int32} {a : Nat} {m : jmM} {Q : Option Value → jmM → Prop} : AW d 81 13 [l0, l1] [.int i, .ref a] m Q ↔ (((mS m a).1 = 20 ∨ a = jScr) ∧ jIx i (mS m a).2) ∧ AW d 81 14 [l0, l1] [.int (mI m a (jx i))] m Q := A_iaload hB_X5_wideOf dX5_wideOf_13
theorem dX5_wideOf_14 : decode cX5_wideOf 14 = .ok (.goto 4, 3) := by decide +kernel
theorem tX5_wideOf_14 {d : Nat} {l0 l1 : Option Value} {v0 : Value} {m : jmM} {Q : Option Value → jmM → Prop} : AW d 81 14 [l0, l1] [v0] m Q ↔ AW d 81 18 [l0, l1] [v0] m Q := A_goto hB_X5_wideOf dX5_wideOf_14 (by decide)
theorem dX5_wideOf_17 : decode cX5_wideOf 17 = .ok (.iconst 0, 1) := by decide +kernel
theorem tX5_wideOf_17 {d : Nat} {l0 l1 : Option Value} {m : jmM} {Q : Option Value → jmM → Prop} : AW d 81 17 [l0, l1] [] m Q ↔ AW d 81 18 [l0, l1] [.int 0] m Q := A_iconst hB_X5_wideOf dX5_wideOf_17 (by decide)
theorem dX5_wideOf_18 : decode cX5_wideOf 18 = .ok (.ireturn, 1) := by decide +kernel
theorem tX5_wideOf_18 {d : Nat} {l0 l1 : Option Value} {x : Int32} {m : jmM} {Q : Option Value → jmM → Prop} : AW d 81 18 [l0, l1] [.int x] m Q ↔ Q (some (.int x)) m := A_ireturn hB_X5_wideOf dX5_wideOf_18 hR_X5_wideOf
theorem hB_X5_heatOf : jB 82 = cX5_heatOf := rfl
theorem hO_X5_heatOf : jO 82 = 5 := rfl
theorem hR_X5_heatOf : jRt 82 = (some .int) := rfl
theorem nX5_heatOf (d : Nat) (x0 : Nat) (x1 : Int32) (m : jmM) (Q : Option Value → jmM → Prop) : CC (d + 1) 82 [.ref x0, .int x1] m Q ↔ AW d 82 0 [some (.ref x0), some (.int x1)] [] m Q := CC_body (Nat.le_of_ble_eq_true rfl)
theorem dX5_heatOf_0 : decode cX5_heatOf 0 = .ok (.aload_n 0, 1) := by decide +kernel
theorem tX5_heatOf_0 {d : Nat} {l1 : Option Value} {x : Nat} {m : jmM} {Q : Option Value → jmM → Prop} : AW d 82 0 [some (.ref x), l1] [] m Q ↔ AW d 82 1 [some (.ref x), l1] [.ref x] m Q := A_aload_n hB_X5_heatOf dX5_heatOf_0 rfl
theorem dX5_heatOf_1 : decode cX5_heatOf 1 = .ok (.iload_n 1, 1) := by decide +kernel
theorem tX5_heatOf_1 {d : Nat} {l0 : Option Value} {v0 : Value} {x : Int32} {m : jmM} {Q : Option Value → jmM → Prop} : AW d 82 1 [l0, some (.int x)] [v0] m Q ↔ AW d 82 2 [l0, some (.int x)] [.int x, v0] m Q := A_iload_n hB_X5_heatOf dX5_heatOf_1 rfl
theorem dX5_heatOf_2 : decode cX5_heatOf 2 = .ok (.invokevirtual 161, 3) := by decide +kernel
theorem tX5_heatOf_2 {d : Nat} {l0 l1 : Option Value} {y0 : Value} {a : Nat} {m : jmM} {Q : Option Value → jmM → Prop} : AW d 82 2 [l0, l1] [y0, .ref a] m Q ↔ (mS m a).1 = 5 ∧ CC d 72 [.ref a, y0] m (jK d 82 5 [l0, l1] [] Q) := A_callV hB_X5_heatOf dX5_heatOf_2 hO_X5_heatOf fS_5_161 ⟨Nat.le_of_ble_eq_true rfl, Nat.le_of_ble_eq_true rfl⟩ rfl rfl rfl
theorem dX5_heatOf_5 : decode cX5_heatOf 5 = .ok (.ifCond .eq 12, 3) := by decide +kernel
theorem tX5_heatOf_5 {d : Nat} {l0 l1 : Option Value} {x : Int32} {m : jmM} {Q : Option Value → jmM → Prop} : AW d 82 5 [l0, l1] [.int x] m Q ↔ if x = 0 then AW d 82 17 [l0, l1] [] m Q else AW d 82 8 [l0, l1] [] m Q := A_if_eq hB_X5_heatOf dX5_heatOf_5 (by decide)
theorem dX5_heatOf_8 : decode cX5_heatOf 8 = .ok (.aload_n 0, 1) := by decide +kernel
theorem tX5_heatOf_8 {d : Nat} {l1 : Option Value} {x : Nat} {m : jmM} {Q : Option Value → jmM → Prop} : AW d 82 8 [some (.ref x), l1] [] m Q ↔ AW d 82 9 [some (.ref x), l1] [.ref x] m Q := A_aload_n hB_X5_heatOf dX5_heatOf_8 rfl
theorem dX5_heatOf_9 : decode cX5_heatOf 9 = .ok (.getfield 58, 3) := by decide +kernel
theorem tX5_heatOf_9 {d : Nat} {l0 l1 : Option Value} {a : Nat} {m : jmM} {Q : Option Value → jmM → Prop} : AW d 82 9 [l0, l1] [.ref a] m Q ↔ (mS m a).1 = 5 ∧ AW d 82 12 [l0, l1] [va_rf (mR m a 13)] m Q := A_getfield (f := fun m a => va_rf (mR m a 13)) hB_X5_heatOf dX5_heatOf_9 hO_X5_heatOf fF_5_58 rfl
theorem dX5_heatOf_12 : decode cX5_heatOf 12 = .ok (.iload_n 1, 1) := by decide +kernel
theorem tX5_heatOf_12 {d : Nat} {l0 : Option Value} {v0 : Value} {x : Int32} {m : jmM} {Q : Option Value → jmM → Prop} : AW d 82 12 [l0, some (.int x)] [v0] m Q ↔ AW d 82 13 [l0, some (.int x)] [.int x, v0] m Q := A_iload_n hB_X5_heatOf dX5_heatOf_12 rfl
theorem dX5_heatOf_13 : decode cX5_heatOf 13 = .ok (.iaload, 1) := by decide +kernel
theorem tX5_heatOf_13 {d : Nat} {l0 l1 : Option Value} {i : Int32} {a : Nat} {m : jmM} {Q : Option Value → jmM → Prop} : AW d 82 13 [l0, l1] [.int i, .ref a] m Q ↔ (((mS m a).1 = 20 ∨ a = jScr) ∧ jIx i (mS m a).2) ∧ AW d 82 14 [l0, l1] [.int (mI m a (jx i))] m Q := A_iaload hB_X5_heatOf dX5_heatOf_13
theorem dX5_heatOf_14 : decode cX5_heatOf 14 = .ok (.goto 4, 3) := by decide +kernel
theorem tX5_heatOf_14 {d : Nat} {l0 l1 : Option Value} {v0 : Value} {m : jmM} {Q : Option Value → jmM → Prop} : AW d 82 14 [l0, l1] [v0] m Q ↔ AW d 82 18 [l0, l1] [v0] m Q := A_goto hB_X5_heatOf dX5_heatOf_14 (by decide)
theorem dX5_heatOf_17 : decode cX5_heatOf 17 = .ok (.iconst 0, 1) := by decide +kernel
theorem tX5_heatOf_17 {d : Nat} {l0 l1 : Option Value} {m : jmM} {Q : Option Value → jmM → Prop} : AW d 82 17 [l0, l1] [] m Q ↔ AW d 82 18 [l0, l1] [.int 0] m Q := A_iconst hB_X5_heatOf dX5_heatOf_17 (by decide)
theorem dX5_heatOf_18 : decode cX5_heatOf 18 = .ok (.ireturn, 1) := by decide +kernel
theorem tX5_heatOf_18 {d : Nat} {l0 l1 : Option Value} {x : Int32} {m : jmM} {Q : Option Value → jmM → Prop} : AW d 82 18 [l0, l1] [.int x] m Q ↔ Q (some (.int x)) m := A_ireturn hB_X5_heatOf dX5_heatOf_18 hR_X5_heatOf
theorem hB_X5_pullOf : jB 83 = cX5_pullOf := rfl
theorem hO_X5_pullOf : jO 83 = 5 := rfl
theorem hR_X5_pullOf : jRt 83 = (some .int) := rfl
theorem nX5_pullOf (d : Nat) (x0 : Nat) (x1 : Int32) (m : jmM) (Q : Option Value → jmM → Prop) : CC (d + 1) 83 [.ref x0, .int x1] m Q ↔ AW d 83 0 [some (.ref x0), some (.int x1)] [] m Q := CC_body (Nat.le_of_ble_eq_true rfl)
theorem dX5_pullOf_0 : decode cX5_pullOf 0 = .ok (.aload_n 0, 1) := by decide +kernel
theorem tX5_pullOf_0 {d : Nat} {l1 : Option Value} {x : Nat} {m : jmM} {Q : Option Value → jmM → Prop} : AW d 83 0 [some (.ref x), l1] [] m Q ↔ AW d 83 1 [some (.ref x), l1] [.ref x] m Q := A_aload_n hB_X5_pullOf dX5_pullOf_0 rfl
theorem dX5_pullOf_1 : decode cX5_pullOf 1 = .ok (.iload_n 1, 1) := by decide +kernel
theorem tX5_pullOf_1 {d : Nat} {l0 : Option Value} {v0 : Value} {x : Int32} {m : jmM} {Q : Option Value → jmM → Prop} : AW d 83 1 [l0, some (.int x)] [v0] m Q ↔ AW d 83 2 [l0, some (.int x)] [.int x, v0] m Q := A_iload_n hB_X5_pullOf dX5_pullOf_1 rfl
theorem dX5_pullOf_2 : decode cX5_pullOf 2 = .ok (.invokevirtual 161, 3) := by decide +kernel
theorem tX5_pullOf_2 {d : Nat} {l0 l1 : Option Value} {y0 : Value} {a : Nat} {m : jmM} {Q : Option Value → jmM → Prop} : AW d 83 2 [l0, l1] [y0, .ref a] m Q ↔ (mS m a).1 = 5 ∧ CC d 72 [.ref a, y0] m (jK d 83 5 [l0, l1] [] Q) := A_callV hB_X5_pullOf dX5_pullOf_2 hO_X5_pullOf fS_5_161 ⟨Nat.le_of_ble_eq_true rfl, Nat.le_of_ble_eq_true rfl⟩ rfl rfl rfl
theorem dX5_pullOf_5 : decode cX5_pullOf 5 = .ok (.ifCond .eq 12, 3) := by decide +kernel
theorem tX5_pullOf_5 {d : Nat} {l0 l1 : Option Value} {x : Int32} {m : jmM} {Q : Option Value → jmM → Prop} : AW d 83 5 [l0, l1] [.int x] m Q ↔ if x = 0 then AW d 83 17 [l0, l1] [] m Q else AW d 83 8 [l0, l1] [] m Q := A_if_eq hB_X5_pullOf dX5_pullOf_5 (by decide)
theorem dX5_pullOf_8 : decode cX5_pullOf 8 = .ok (.aload_n 0, 1) := by decide +kernel
theorem tX5_pullOf_8 {d : Nat} {l1 : Option Value} {x : Nat} {m : jmM} {Q : Option Value → jmM → Prop} : AW d 83 8 [some (.ref x), l1] [] m Q ↔ AW d 83 9 [some (.ref x), l1] [.ref x] m Q := A_aload_n hB_X5_pullOf dX5_pullOf_8 rfl
theorem dX5_pullOf_9 : decode cX5_pullOf 9 = .ok (.getfield 61, 3) := by decide +kernel
theorem tX5_pullOf_9 {d : Nat} {l0 l1 : Option Value} {a : Nat} {m : jmM} {Q : Option Value → jmM → Prop} : AW d 83 9 [l0, l1] [.ref a] m Q ↔ (mS m a).1 = 5 ∧ AW d 83 12 [l0, l1] [va_rf (mR m a 14)] m Q := A_getfield (f := fun m a => va_rf (mR m a 14)) hB_X5_pullOf dX5_pullOf_9 hO_X5_pullOf fF_5_61 rfl
theorem dX5_pullOf_12 : decode cX5_pullOf 12 = .ok (.iload_n 1, 1) := by decide +kernel
theorem tX5_pullOf_12 {d : Nat} {l0 : Option Value} {v0 : Value} {x : Int32} {m : jmM} {Q : Option Value → jmM → Prop} : AW d 83 12 [l0, some (.int x)] [v0] m Q ↔ AW d 83 13 [l0, some (.int x)] [.int x, v0] m Q := A_iload_n hB_X5_pullOf dX5_pullOf_12 rfl
theorem dX5_pullOf_13 : decode cX5_pullOf 13 = .ok (.iaload, 1) := by decide +kernel
theorem tX5_pullOf_13 {d : Nat} {l0 l1 : Option Value} {i : Int32} {a : Nat} {m : jmM} {Q : Option Value → jmM → Prop} : AW d 83 13 [l0, l1] [.int i, .ref a] m Q ↔ (((mS m a).1 = 20 ∨ a = jScr) ∧ jIx i (mS m a).2) ∧ AW d 83 14 [l0, l1] [.int (mI m a (jx i))] m Q := A_iaload hB_X5_pullOf dX5_pullOf_13
theorem dX5_pullOf_14 : decode cX5_pullOf 14 = .ok (.goto 4, 3) := by decide +kernel
theorem tX5_pullOf_14 {d : Nat} {l0 l1 : Option Value} {v0 : Value} {m : jmM} {Q : Option Value → jmM → Prop} : AW d 83 14 [l0, l1] [v0] m Q ↔ AW d 83 18 [l0, l1] [v0] m Q := A_goto hB_X5_pullOf dX5_pullOf_14 (by decide)
theorem dX5_pullOf_17 : decode cX5_pullOf 17 = .ok (.iconst 0, 1) := by decide +kernel
theorem tX5_pullOf_17 {d : Nat} {l0 l1 : Option Value} {m : jmM} {Q : Option Value → jmM → Prop} : AW d 83 17 [l0, l1] [] m Q ↔ AW d 83 18 [l0, l1] [.int 0] m Q := A_iconst hB_X5_pullOf dX5_pullOf_17 (by decide)
theorem dX5_pullOf_18 : decode cX5_pullOf 18 = .ok (.ireturn, 1) := by decide +kernel
theorem tX5_pullOf_18 {d : Nat} {l0 l1 : Option Value} {x : Int32} {m : jmM} {Q : Option Value → jmM → Prop} : AW d 83 18 [l0, l1] [.int x] m Q ↔ Q (some (.int x)) m := A_ireturn hB_X5_pullOf dX5_pullOf_18 hR_X5_pullOf
theorem hB_X5_grownOf : jB 84 = cX5_grownOf := rfl
theorem hO_X5_grownOf : jO 84 = 5 := rfl
theorem hR_X5_grownOf : jRt 84 = (some .int) := rfl
theorem nX5_grownOf (d : Nat) (x0 : Nat) (x1 : Int32) (m : jmM) (Q : Option Value → jmM → Prop) : CC (d + 1) 84 [.ref x0, .int x1] m Q ↔ AW d 84 0 [some (.ref x0), some (.int x1)] [] m Q := CC_body (Nat.le_of_ble_eq_true rfl)
theorem dX5_grownOf_0 : decode cX5_grownOf 0 = .ok (.aload_n 0, 1) := by decide +kernel
theorem tX5_grownOf_0 {d : Nat} {l1 : Option Value} {x : Nat} {m : jmM} {Q : Option Value → jmM → Prop} : AW d 84 0 [some (.ref x), l1] [] m Q ↔ AW d 84 1 [some (.ref x), l1] [.ref x] m Q := A_aload_n hB_X5_grownOf dX5_grownOf_0 rfl
theorem dX5_grownOf_1 : decode cX5_grownOf 1 = .ok (.iload_n 1, 1) := by decide +kernel
theorem tX5_grownOf_1 {d : Nat} {l0 : Option Value} {v0 : Value} {x : Int32} {m : jmM} {Q : Option Value → jmM → Prop} : AW d 84 1 [l0, some (.int x)] [v0] m Q ↔ AW d 84 2 [l0, some (.int x)] [.int x, v0] m Q := A_iload_n hB_X5_grownOf dX5_grownOf_1 rfl
theorem dX5_grownOf_2 : decode cX5_grownOf 2 = .ok (.invokevirtual 161, 3) := by decide +kernel
theorem tX5_grownOf_2 {d : Nat} {l0 l1 : Option Value} {y0 : Value} {a : Nat} {m : jmM} {Q : Option Value → jmM → Prop} : AW d 84 2 [l0, l1] [y0, .ref a] m Q ↔ (mS m a).1 = 5 ∧ CC d 72 [.ref a, y0] m (jK d 84 5 [l0, l1] [] Q) := A_callV hB_X5_grownOf dX5_grownOf_2 hO_X5_grownOf fS_5_161 ⟨Nat.le_of_ble_eq_true rfl, Nat.le_of_ble_eq_true rfl⟩ rfl rfl rfl
theorem dX5_grownOf_5 : decode cX5_grownOf 5 = .ok (.ifCond .eq 12, 3) := by decide +kernel
theorem tX5_grownOf_5 {d : Nat} {l0 l1 : Option Value} {x : Int32} {m : jmM} {Q : Option Value → jmM → Prop} : AW d 84 5 [l0, l1] [.int x] m Q ↔ if x = 0 then AW d 84 17 [l0, l1] [] m Q else AW d 84 8 [l0, l1] [] m Q := A_if_eq hB_X5_grownOf dX5_grownOf_5 (by decide)
theorem dX5_grownOf_8 : decode cX5_grownOf 8 = .ok (.aload_n 0, 1) := by decide +kernel
theorem tX5_grownOf_8 {d : Nat} {l1 : Option Value} {x : Nat} {m : jmM} {Q : Option Value → jmM → Prop} : AW d 84 8 [some (.ref x), l1] [] m Q ↔ AW d 84 9 [some (.ref x), l1] [.ref x] m Q := A_aload_n hB_X5_grownOf dX5_grownOf_8 rfl
theorem dX5_grownOf_9 : decode cX5_grownOf 9 = .ok (.getfield 64, 3) := by decide +kernel
theorem tX5_grownOf_9 {d : Nat} {l0 l1 : Option Value} {a : Nat} {m : jmM} {Q : Option Value → jmM → Prop} : AW d 84 9 [l0, l1] [.ref a] m Q ↔ (mS m a).1 = 5 ∧ AW d 84 12 [l0, l1] [va_rf (mR m a 15)] m Q := A_getfield (f := fun m a => va_rf (mR m a 15)) hB_X5_grownOf dX5_grownOf_9 hO_X5_grownOf fF_5_64 rfl
theorem dX5_grownOf_12 : decode cX5_grownOf 12 = .ok (.iload_n 1, 1) := by decide +kernel
theorem tX5_grownOf_12 {d : Nat} {l0 : Option Value} {v0 : Value} {x : Int32} {m : jmM} {Q : Option Value → jmM → Prop} : AW d 84 12 [l0, some (.int x)] [v0] m Q ↔ AW d 84 13 [l0, some (.int x)] [.int x, v0] m Q := A_iload_n hB_X5_grownOf dX5_grownOf_12 rfl
theorem dX5_grownOf_13 : decode cX5_grownOf 13 = .ok (.iaload, 1) := by decide +kernel
theorem tX5_grownOf_13 {d : Nat} {l0 l1 : Option Value} {i : Int32} {a : Nat} {m : jmM} {Q : Option Value → jmM → Prop} : AW d 84 13 [l0, l1] [.int i, .ref a] m Q ↔ (((mS m a).1 = 20 ∨ a = jScr) ∧ jIx i (mS m a).2) ∧ AW d 84 14 [l0, l1] [.int (mI m a (jx i))] m Q := A_iaload hB_X5_grownOf dX5_grownOf_13
theorem dX5_grownOf_14 : decode cX5_grownOf 14 = .ok (.goto 4, 3) := by decide +kernel
theorem tX5_grownOf_14 {d : Nat} {l0 l1 : Option Value} {v0 : Value} {m : jmM} {Q : Option Value → jmM → Prop} : AW d 84 14 [l0, l1] [v0] m Q ↔ AW d 84 18 [l0, l1] [v0] m Q := A_goto hB_X5_grownOf dX5_grownOf_14 (by decide)
theorem dX5_grownOf_17 : decode cX5_grownOf 17 = .ok (.iconst 0, 1) := by decide +kernel
theorem tX5_grownOf_17 {d : Nat} {l0 l1 : Option Value} {m : jmM} {Q : Option Value → jmM → Prop} : AW d 84 17 [l0, l1] [] m Q ↔ AW d 84 18 [l0, l1] [.int 0] m Q := A_iconst hB_X5_grownOf dX5_grownOf_17 (by decide)
theorem dX5_grownOf_18 : decode cX5_grownOf 18 = .ok (.ireturn, 1) := by decide +kernel
theorem tX5_grownOf_18 {d : Nat} {l0 l1 : Option Value} {x : Int32} {m : jmM} {Q : Option Value → jmM → Prop} : AW d 84 18 [l0, l1] [.int x] m Q ↔ Q (some (.int x)) m := A_ireturn hB_X5_grownOf dX5_grownOf_18 hR_X5_grownOf
