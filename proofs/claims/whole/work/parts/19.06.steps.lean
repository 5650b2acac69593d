/-! steps of PulledCrystal$Reader, by program -/
theorem hB_X6_init : jB 88 = cX6_init := rfl
theorem hO_X6_init : jO 88 = 6 := rfl
theorem hR_X6_init : jRt 88 = none := rfl
theorem nX6_init (d : Nat) (x0 : Nat) (m : jmM) (Q : Option Value → jmM → Prop) : CC (d + 1) 88 [.ref x0] m Q ↔ AW d 88 0 [some (.ref x0)] [] m Q := CC_body (Nat.le_of_ble_eq_true rfl)
theorem dX6_init_0 : decode cX6_init 0 = .ok (.aload_n 0, 1) := by decide +kernel
theorem tX6_init_0 {d : Nat} {x : Nat} {m : jmM} {Q : Option Value → jmM → Prop} : AW d 88 0 [some (.ref x)] [] m Q ↔ AW d 88 1 [some (.ref x)] [.ref x] m Q := A_aload_n hB_X6_init dX6_init_0 rfl
theorem dX6_init_1 : decode cX6_init 1 = .ok (.invokespecial 3, 3) := by decide +kernel
theorem tX6_init_1 {d : Nat} {l0 : Option Value} {a : Nat} {m : jmM} {Q : Option Value → jmM → Prop} : AW d 88 1 [l0] [.ref a] m Q ↔ AW d 88 4 [l0] [] m Q := A_obj hB_X6_init dX6_init_1 hO_X6_init fS_6_3 (Nat.le_of_ble_eq_true rfl)
theorem dX6_init_4 : decode cX6_init 4 = .ok (.aload_n 0, 1) := by decide +kernel
theorem tX6_init_4 {d : Nat} {x : Nat} {m : jmM} {Q : Option Value → jmM → Prop} : AW d 88 4 [some (.ref x)] [] m Q ↔ AW d 88 5 [some (.ref x)] [.ref x] m Q := A_aload_n hB_X6_init dX6_init_4 rfl
theorem dX6_init_5 : decode cX6_init 5 = .ok (.new 9, 3) := by decide +kernel
theorem tX6_init_5 {d : Nat} {l0 : Option Value} {v0 : Value} {m : jmM} {Q : Option Value → jmM → Prop} : AW d 88 5 [l0] [v0] m Q ↔ AW d 88 8 [l0] [.ref (mN m), v0] (jNew m 9 2) Q := A_new hB_X6_init dX6_init_5 hO_X6_init fN_6_9 rfl
theorem dX6_init_8 : decode cX6_init 8 = .ok (.dup, 1) := by decide +kernel
theorem tX6_init_8 {d : Nat} {l0 : Option Value} {v1 : Value} {x : Nat} {m : jmM} {Q : Option Value → jmM → Prop} : AW d 88 8 [l0] [.ref x, v1] m Q ↔ AW d 88 9 [l0] [.ref x, .ref x, v1] m Q := A_dup_a hB_X6_init dX6_init_8
theorem dX6_init_9 : decode cX6_init 9 = .ok (.invokespecial 11, 3) := by decide +kernel
theorem tX6_init_9 {d : Nat} {l0 : Option Value} {v1 v2 : Value} {a : Nat} {m : jmM} {Q : Option Value → jmM → Prop} : AW d 88 9 [l0] [.ref a, v1, v2] m Q ↔ CC d 130 [.ref a] m (jK d 88 12 [l0] [v1, v2] Q) := A_callI5 hB_X6_init dX6_init_9 hO_X6_init fS_6_11 ⟨Nat.le_of_ble_eq_true rfl, Nat.le_of_ble_eq_true rfl⟩ rfl rfl
theorem dX6_init_12 : decode cX6_init 12 = .ok (.putfield 12, 3) := by decide +kernel
theorem tX6_init_12 {d : Nat} {l0 : Option Value} {x a : Nat} {m : jmM} {Q : Option Value → jmM → Prop} : AW d 88 12 [l0] [.ref x, .ref a] m Q ↔ (mS m a).1 = 6 ∧ AW d 88 15 [l0] [] (cR m a (jup (mR m a) 0 (some x))) Q := A_putR hB_X6_init dX6_init_12 hO_X6_init fF_6_12 rfl (fun _ => ⟨rfl, rfl⟩)
theorem tX6_init_12q {d : Nat} {l0 : Option Value} {x : Option Nat} {a : Nat} {m : jmM} {Q : Option Value → jmM → Prop} : AW d 88 12 [l0] [va_rf x, .ref a] m Q ↔ (mS m a).1 = 6 ∧ AW d 88 15 [l0] [] (cR m a (jup (mR m a) 0 x)) Q := A_putQ hB_X6_init dX6_init_12 hO_X6_init fF_6_12 rfl (fun _ => ⟨rfl, rfl⟩)
theorem tX6_init_12n {d : Nat} {l0 : Option Value} {a : Nat} {m : jmM} {Q : Option Value → jmM → Prop} : AW d 88 12 [l0] [.null, .ref a] m Q ↔ (mS m a).1 = 6 ∧ AW d 88 15 [l0] [] (cR m a (jup (mR m a) 0 none)) Q := A_putQ (x := none) hB_X6_init dX6_init_12 hO_X6_init fF_6_12 rfl (fun _ => ⟨rfl, rfl⟩)
theorem dX6_init_15 : decode cX6_init 15 = .ok (.aload_n 0, 1) := by decide +kernel
theorem tX6_init_15 {d : Nat} {x : Nat} {m : jmM} {Q : Option Value → jmM → Prop} : AW d 88 15 [some (.ref x)] [] m Q ↔ AW d 88 16 [some (.ref x)] [.ref x] m Q := A_aload_n hB_X6_init dX6_init_15 rfl
theorem dX6_init_16 : decode cX6_init 16 = .ok (.new 18, 3) := by decide +kernel
theorem tX6_init_16 {d : Nat} {l0 : Option Value} {v0 : Value} {m : jmM} {Q : Option Value → jmM → Prop} : AW d 88 16 [l0] [v0] m Q ↔ AW d 88 19 [l0] [.ref (mN m), v0] (jNew m 3 10) Q := A_new hB_X6_init dX6_init_16 hO_X6_init fN_6_18 rfl
theorem dX6_init_19 : decode cX6_init 19 = .ok (.dup, 1) := by decide +kernel
theorem tX6_init_19 {d : Nat} {l0 : Option Value} {v1 : Value} {x : Nat} {m : jmM} {Q : Option Value → jmM → Prop} : AW d 88 19 [l0] [.ref x, v1] m Q ↔ AW d 88 20 [l0] [.ref x, .ref x, v1] m Q := A_dup_a hB_X6_init dX6_init_19
theorem dX6_init_20 : decode cX6_init 20 = .ok (.invokespecial 20, 3) := by decide +kernel
theorem tX6_init_20 {d : Nat} {l0 : Option Value} {v1 v2 : Value} {a : Nat} {m : jmM} {Q : Option Value → jmM → Prop} : AW d 88 20 [l0] [.ref a, v1, v2] m Q ↔ CC d 24 [.ref a] m (jK d 88 23 [l0] [v1, v2] Q) := A_callI5 hB_X6_init dX6_init_20 hO_X6_init fS_6_20 ⟨Nat.le_of_ble_eq_true rfl, Nat.le_of_ble_eq_true rfl⟩ rfl rfl
theorem dX6_init_23 : decode cX6_init 23 = .ok (.putfield 21, 3) := by decide +kernel
theorem tX6_init_23 {d : Nat} {l0 : Option Value} {x a : Nat} {m : jmM} {Q : Option Value → jmM → Prop} : AW d 88 23 [l0] [.ref x, .ref a] m Q ↔ (mS m a).1 = 6 ∧ AW d 88 26 [l0] [] (cR m a (jup (mR m a) 1 (some x))) Q := A_putR hB_X6_init dX6_init_23 hO_X6_init fF_6_21 rfl (fun _ => ⟨rfl, rfl⟩)
theorem tX6_init_23q {d : Nat} {l0 : Option Value} {x : Option Nat} {a : Nat} {m : jmM} {Q : Option Value → jmM → Prop} : AW d 88 23 [l0] [va_rf x, .ref a] m Q ↔ (mS m a).1 = 6 ∧ AW d 88 26 [l0] [] (cR m a (jup (mR m a) 1 x)) Q := A_putQ hB_X6_init dX6_init_23 hO_X6_init fF_6_21 rfl (fun _ => ⟨rfl, rfl⟩)
theorem tX6_init_23n {d : Nat} {l0 : Option Value} {a : Nat} {m : jmM} {Q : Option Value → jmM → Prop} : AW d 88 23 [l0] [.null, .ref a] m Q ↔ (mS m a).1 = 6 ∧ AW d 88 26 [l0] [] (cR m a (jup (mR m a) 1 none)) Q := A_putQ (x := none) hB_X6_init dX6_init_23 hO_X6_init fF_6_21 rfl (fun _ => ⟨rfl, rfl⟩)
theorem dX6_init_26 : decode cX6_init 26 = .ok (.aload_n 0, 1) := by decide +kernel
theorem tX6_init_26 {d : Nat} {x : Nat} {m : jmM} {Q : Option Value → jmM → Prop} : AW d 88 26 [some (.ref x)] [] m Q ↔ AW d 88 27 [some (.ref x)] [.ref x] m Q := A_aload_n hB_X6_init dX6_init_26 rfl
theorem dX6_init_27 : decode cX6_init 27 = .ok (.iconst 0, 1) := by decide +kernel
theorem tX6_init_27 {d : Nat} {l0 : Option Value} {v0 : Value} {m : jmM} {Q : Option Value → jmM → Prop} : AW d 88 27 [l0] [v0] m Q ↔ AW d 88 28 [l0] [.int 0, v0] m Q := A_iconst hB_X6_init dX6_init_27 (by decide)
theorem dX6_init_28 : decode cX6_init 28 = .ok (.putfield 25, 3) := by decide +kernel
theorem tX6_init_28 {d : Nat} {l0 : Option Value} {x : Int32} {a : Nat} {m : jmM} {Q : Option Value → jmM → Prop} : AW d 88 28 [l0] [.int x, .ref a] m Q ↔ ((mS m a).1 = 6 ∧ jBool x) ∧ AW d 88 31 [l0] [] (cI m a (jup (mI m a) 2 x)) Q := A_putZ hB_X6_init dX6_init_28 hO_X6_init fF_6_25 rfl (fun h => Bool.noConfusion h)
theorem dX6_init_31 : decode cX6_init 31 = .ok (.aload_n 0, 1) := by decide +kernel
theorem tX6_init_31 {d : Nat} {x : Nat} {m : jmM} {Q : Option Value → jmM → Prop} : AW d 88 31 [some (.ref x)] [] m Q ↔ AW d 88 32 [some (.ref x)] [.ref x] m Q := A_aload_n hB_X6_init dX6_init_31 rfl
theorem dX6_init_32 : decode cX6_init 32 = .ok (.iconst 0, 1) := by decide +kernel
theorem tX6_init_32 {d : Nat} {l0 : Option Value} {v0 : Value} {m : jmM} {Q : Option Value → jmM → Prop} : AW d 88 32 [l0] [v0] m Q ↔ AW d 88 33 [l0] [.int 0, v0] m Q := A_iconst hB_X6_init dX6_init_32 (by decide)
theorem dX6_init_33 : decode cX6_init 33 = .ok (.putfield 29, 3) := by decide +kernel
theorem tX6_init_33 {d : Nat} {l0 : Option Value} {x : Int32} {a : Nat} {m : jmM} {Q : Option Value → jmM → Prop} : AW d 88 33 [l0] [.int x, .ref a] m Q ↔ (mS m a).1 = 6 ∧ AW d 88 36 [l0] [] (cI m a (jup (mI m a) 3 x)) Q := A_putI hB_X6_init dX6_init_33 hO_X6_init fF_6_29 rfl (fun h => Bool.noConfusion h)
theorem dX6_init_36 : decode cX6_init 36 = .ok (.aload_n 0, 1) := by decide +kernel
theorem tX6_init_36 {d : Nat} {x : Nat} {m : jmM} {Q : Option Value → jmM → Prop} : AW d 88 36 [some (.ref x)] [] m Q ↔ AW d 88 37 [some (.ref x)] [.ref x] m Q := A_aload_n hB_X6_init dX6_init_36 rfl
theorem dX6_init_37 : decode cX6_init 37 = .ok (.iconst 0, 1) := by decide +kernel
theorem tX6_init_37 {d : Nat} {l0 : Option Value} {v0 : Value} {m : jmM} {Q : Option Value → jmM → Prop} : AW d 88 37 [l0] [v0] m Q ↔ AW d 88 38 [l0] [.int 0, v0] m Q := A_iconst hB_X6_init dX6_init_37 (by decide)
theorem dX6_init_38 : decode cX6_init 38 = .ok (.putfield 33, 3) := by decide +kernel
theorem tX6_init_38 {d : Nat} {l0 : Option Value} {x : Int32} {a : Nat} {m : jmM} {Q : Option Value → jmM → Prop} : AW d 88 38 [l0] [.int x, .ref a] m Q ↔ (mS m a).1 = 6 ∧ AW d 88 41 [l0] [] (cI m a (jup (mI m a) 4 x)) Q := A_putI hB_X6_init dX6_init_38 hO_X6_init fF_6_33 rfl (fun h => Bool.noConfusion h)
theorem dX6_init_41 : decode cX6_init 41 = .ok (.aload_n 0, 1) := by decide +kernel
theorem tX6_init_41 {d : Nat} {x : Nat} {m : jmM} {Q : Option Value → jmM → Prop} : AW d 88 41 [some (.ref x)] [] m Q ↔ AW d 88 42 [some (.ref x)] [.ref x] m Q := A_aload_n hB_X6_init dX6_init_41 rfl
theorem dX6_init_42 : decode cX6_init 42 = .ok (.iconst 0, 1) := by decide +kernel
theorem tX6_init_42 {d : Nat} {l0 : Option Value} {v0 : Value} {m : jmM} {Q : Option Value → jmM → Prop} : AW d 88 42 [l0] [v0] m Q ↔ AW d 88 43 [l0] [.int 0, v0] m Q := A_iconst hB_X6_init dX6_init_42 (by decide)
theorem dX6_init_43 : decode cX6_init 43 = .ok (.putfield 36, 3) := by decide +kernel
theorem tX6_init_43 {d : Nat} {l0 : Option Value} {x : Int32} {a : Nat} {m : jmM} {Q : Option Value → jmM → Prop} : AW d 88 43 [l0] [.int x, .ref a] m Q ↔ (mS m a).1 = 6 ∧ AW d 88 46 [l0] [] (cI m a (jup (mI m a) 5 x)) Q := A_putI hB_X6_init dX6_init_43 hO_X6_init fF_6_36 rfl (fun h => Bool.noConfusion h)
theorem dX6_init_46 : decode cX6_init 46 = .ok (.return_, 1) := by decide +kernel
theorem tX6_init_46 {d : Nat} {l0 : Option Value} {m : jmM} {Q : Option Value → jmM → Prop} : AW d 88 46 [l0] [] m Q ↔ Q none m := A_return hB_X6_init dX6_init_46 hR_X6_init
theorem hB_X6_tape : jB 89 = cX6_tape := rfl
theorem hO_X6_tape : jO 89 = 6 := rfl
theorem hR_X6_tape : jRt 89 = (some (.object "PulledCrystal$Tape")) := rfl
theorem nX6_tape (d : Nat) (x0 : Nat) (m : jmM) (Q : Option Value → jmM → Prop) : CC (d + 1) 89 [.ref x0] m Q ↔ AW d 89 0 [some (.ref x0)] [] m Q := CC_body (Nat.le_of_ble_eq_true rfl)
theorem dX6_tape_0 : decode cX6_tape 0 = .ok (.aload_n 0, 1) := by decide +kernel
theorem tX6_tape_0 {d : Nat} {x : Nat} {m : jmM} {Q : Option Value → jmM → Prop} : AW d 89 0 [some (.ref x)] [] m Q ↔ AW d 89 1 [some (.ref x)] [.ref x] m Q := A_aload_n hB_X6_tape dX6_tape_0 rfl
theorem dX6_tape_1 : decode cX6_tape 1 = .ok (.getfield 12, 3) := by decide +kernel
theorem tX6_tape_1 {d : Nat} {l0 : Option Value} {a : Nat} {m : jmM} {Q : Option Value → jmM → Prop} : AW d 89 1 [l0] [.ref a] m Q ↔ (mS m a).1 = 6 ∧ AW d 89 4 [l0] [va_rf (mR m a 0)] m Q := A_getfield (f := fun m a => va_rf (mR m a 0)) hB_X6_tape dX6_tape_1 hO_X6_tape fF_6_12 rfl
theorem dX6_tape_4 : decode cX6_tape 4 = .ok (.areturn, 1) := by decide +kernel
theorem tX6_tape_4 {d : Nat} {l0 : Option Value} {x : Nat} {m : jmM} {Q : Option Value → jmM → Prop} : AW d 89 4 [l0] [.ref x] m Q ↔ Q (some (.ref x)) m := A_areturn hB_X6_tape dX6_tape_4 rfl
theorem tX6_tape_4q {d : Nat} {l0 : Option Value} {x : Option Nat} {m : jmM} {Q : Option Value → jmM → Prop} : AW d 89 4 [l0] [va_rf x] m Q ↔ Q (some (va_rf x)) m := A_areturnq hB_X6_tape dX6_tape_4 rfl
theorem tX6_tape_4n {d : Nat} {l0 : Option Value} {m : jmM} {Q : Option Value → jmM → Prop} : AW d 89 4 [l0] [.null] m Q ↔ Q (some .null) m := A_areturnN hB_X6_tape dX6_tape_4 rfl
theorem hB_X6_readInto : jB 90 = cX6_readInto := rfl
theorem hO_X6_readInto : jO 90 = 6 := rfl
theorem hR_X6_readInto : jRt 90 = (some .int) := rfl
theorem nX6_readInto (d : Nat) (x0 : Nat) (x1 : Nat) (x2 : Int32) (m : jmM) (Q : Option Value → jmM → Prop) : CC (d + 1) 90 [.ref x0, .ref x1, .int x2] m Q ↔ AW d 90 0 [some (.ref x0), some (.ref x1), some (.int x2), none, none] [] m Q := CC_body (Nat.le_of_ble_eq_true rfl)
theorem dX6_readInto_0 : decode cX6_readInto 0 = .ok (.aload_n 1, 1) := by decide +kernel
theorem tX6_readInto_0 {d : Nat} {l0 l2 l3 l4 : Option Value} {x : Nat} {m : jmM} {Q : Option Value → jmM → Prop} : AW d 90 0 [l0, some (.ref x), l2, l3, l4] [] m Q ↔ AW d 90 1 [l0, some (.ref x), l2, l3, l4] [.ref x] m Q := A_aload_n hB_X6_readInto dX6_readInto_0 rfl
theorem dX6_readInto_1 : decode cX6_readInto 1 = .ok (.invokevirtual 39, 3) := by decide +kernel
theorem tX6_readInto_1 {d : Nat} {l0 l1 l2 l3 l4 : Option Value} {a : Nat} {m : jmM} {Q : Option Value → jmM → Prop} : AW d 90 1 [l0, l1, l2, l3, l4] [.ref a] m Q ↔ (mS m a).1 = 4 ∧ CC d 43 [.ref a] m (jK d 90 4 [l0, l1, l2, l3, l4] [] Q) := A_callV hB_X6_readInto dX6_readInto_1 hO_X6_readInto fS_6_39 ⟨Nat.le_of_ble_eq_true rfl, Nat.le_of_ble_eq_true rfl⟩ rfl rfl rfl
theorem dX6_readInto_4 : decode cX6_readInto 4 = .ok (.ifCond .eq 5, 3) := by decide +kernel
theorem tX6_readInto_4 {d : Nat} {l0 l1 l2 l3 l4 : Option Value} {x : Int32} {m : jmM} {Q : Option Value → jmM → Prop} : AW d 90 4 [l0, l1, l2, l3, l4] [.int x] m Q ↔ if x = 0 then AW d 90 9 [l0, l1, l2, l3, l4] [] m Q else AW d 90 7 [l0, l1, l2, l3, l4] [] m Q := A_if_eq hB_X6_readInto dX6_readInto_4 (by decide)
theorem dX6_readInto_7 : decode cX6_readInto 7 = .ok (.iconst (-1), 1) := by decide +kernel
theorem tX6_readInto_7 {d : Nat} {l0 l1 l2 l3 l4 : Option Value} {m : jmM} {Q : Option Value → jmM → Prop} : AW d 90 7 [l0, l1, l2, l3, l4] [] m Q ↔ AW d 90 8 [l0, l1, l2, l3, l4] [.int (-1)] m Q := A_iconst hB_X6_readInto dX6_readInto_7 (by decide)
theorem dX6_readInto_8 : decode cX6_readInto 8 = .ok (.ireturn, 1) := by decide +kernel
theorem tX6_readInto_8 {d : Nat} {l0 l1 l2 l3 l4 : Option Value} {x : Int32} {m : jmM} {Q : Option Value → jmM → Prop} : AW d 90 8 [l0, l1, l2, l3, l4] [.int x] m Q ↔ Q (some (.int x)) m := A_ireturn hB_X6_readInto dX6_readInto_8 hR_X6_readInto
theorem dX6_readInto_9 : decode cX6_readInto 9 = .ok (.aload_n 0, 1) := by decide +kernel
theorem tX6_readInto_9 {d : Nat} {l1 l2 l3 l4 : Option Value} {x : Nat} {m : jmM} {Q : Option Value → jmM → Prop} : AW d 90 9 [some (.ref x), l1, l2, l3, l4] [] m Q ↔ AW d 90 10 [some (.ref x), l1, l2, l3, l4] [.ref x] m Q := A_aload_n hB_X6_readInto dX6_readInto_9 rfl
theorem dX6_readInto_10 : decode cX6_readInto 10 = .ok (.iload_n 2, 1) := by decide +kernel
theorem tX6_readInto_10 {d : Nat} {l0 l1 l3 l4 : Option Value} {v0 : Value} {x : Int32} {m : jmM} {Q : Option Value → jmM → Prop} : AW d 90 10 [l0, l1, some (.int x), l3, l4] [v0] m Q ↔ AW d 90 11 [l0, l1, some (.int x), l3, l4] [.int x, v0] m Q := A_iload_n hB_X6_readInto dX6_readInto_10 rfl
theorem dX6_readInto_11 : decode cX6_readInto 11 = .ok (.putfield 25, 3) := by decide +kernel
theorem tX6_readInto_11 {d : Nat} {l0 l1 l2 l3 l4 : Option Value} {x : Int32} {a : Nat} {m : jmM} {Q : Option Value → jmM → Prop} : AW d 90 11 [l0, l1, l2, l3, l4] [.int x, .ref a] m Q ↔ ((mS m a).1 = 6 ∧ jBool x) ∧ AW d 90 14 [l0, l1, l2, l3, l4] [] (cI m a (jup (mI m a) 2 x)) Q := A_putZ hB_X6_readInto dX6_readInto_11 hO_X6_readInto fF_6_25 rfl (fun h => Bool.noConfusion h)
theorem dX6_readInto_14 : decode cX6_readInto 14 = .ok (.aload_n 0, 1) := by decide +kernel
theorem tX6_readInto_14 {d : Nat} {l1 l2 l3 l4 : Option Value} {x : Nat} {m : jmM} {Q : Option Value → jmM → Prop} : AW d 90 14 [some (.ref x), l1, l2, l3, l4] [] m Q ↔ AW d 90 15 [some (.ref x), l1, l2, l3, l4] [.ref x] m Q := A_aload_n hB_X6_readInto dX6_readInto_14 rfl
theorem dX6_readInto_15 : decode cX6_readInto 15 = .ok (.iconst 0, 1) := by decide +kernel
theorem tX6_readInto_15 {d : Nat} {l0 l1 l2 l3 l4 : Option Value} {v0 : Value} {m : jmM} {Q : Option Value → jmM → Prop} : AW d 90 15 [l0, l1, l2, l3, l4] [v0] m Q ↔ AW d 90 16 [l0, l1, l2, l3, l4] [.int 0, v0] m Q := A_iconst hB_X6_readInto dX6_readInto_15 (by decide)
theorem dX6_readInto_16 : decode cX6_readInto 16 = .ok (.putfield 29, 3) := by decide +kernel
theorem tX6_readInto_16 {d : Nat} {l0 l1 l2 l3 l4 : Option Value} {x : Int32} {a : Nat} {m : jmM} {Q : Option Value → jmM → Prop} : AW d 90 16 [l0, l1, l2, l3, l4] [.int x, .ref a] m Q ↔ (mS m a).1 = 6 ∧ AW d 90 19 [l0, l1, l2, l3, l4] [] (cI m a (jup (mI m a) 3 x)) Q := A_putI hB_X6_readInto dX6_readInto_16 hO_X6_readInto fF_6_29 rfl (fun h => Bool.noConfusion h)
theorem dX6_readInto_19 : decode cX6_readInto 19 = .ok (.aload_n 0, 1) := by decide +kernel
theorem tX6_readInto_19 {d : Nat} {l1 l2 l3 l4 : Option Value} {x : Nat} {m : jmM} {Q : Option Value → jmM → Prop} : AW d 90 19 [some (.ref x), l1, l2, l3, l4] [] m Q ↔ AW d 90 20 [some (.ref x), l1, l2, l3, l4] [.ref x] m Q := A_aload_n hB_X6_readInto dX6_readInto_19 rfl
theorem dX6_readInto_20 : decode cX6_readInto 20 = .ok (.iconst 0, 1) := by decide +kernel
theorem tX6_readInto_20 {d : Nat} {l0 l1 l2 l3 l4 : Option Value} {v0 : Value} {m : jmM} {Q : Option Value → jmM → Prop} : AW d 90 20 [l0, l1, l2, l3, l4] [v0] m Q ↔ AW d 90 21 [l0, l1, l2, l3, l4] [.int 0, v0] m Q := A_iconst hB_X6_readInto dX6_readInto_20 (by decide)
theorem dX6_readInto_21 : decode cX6_readInto 21 = .ok (.putfield 33, 3) := by decide +kernel
theorem tX6_readInto_21 {d : Nat} {l0 l1 l2 l3 l4 : Option Value} {x : Int32} {a : Nat} {m : jmM} {Q : Option Value → jmM → Prop} : AW d 90 21 [l0, l1, l2, l3, l4] [.int x, .ref a] m Q ↔ (mS m a).1 = 6 ∧ AW d 90 24 [l0, l1, l2, l3, l4] [] (cI m a (jup (mI m a) 4 x)) Q := A_putI hB_X6_readInto dX6_readInto_21 hO_X6_readInto fF_6_33 rfl (fun h => Bool.noConfusion h)
theorem dX6_readInto_24 : decode cX6_readInto 24 = .ok (.aload_n 0, 1) := by decide +kernel
theorem tX6_readInto_24 {d : Nat} {l1 l2 l3 l4 : Option Value} {x : Nat} {m : jmM} {Q : Option Value → jmM → Prop} : AW d 90 24 [some (.ref x), l1, l2, l3, l4] [] m Q ↔ AW d 90 25 [some (.ref x), l1, l2, l3, l4] [.ref x] m Q := A_aload_n hB_X6_readInto dX6_readInto_24 rfl
theorem dX6_readInto_25 : decode cX6_readInto 25 = .ok (.iconst 0, 1) := by decide +kernel
theorem tX6_readInto_25 {d : Nat} {l0 l1 l2 l3 l4 : Option Value} {v0 : Value} {m : jmM} {Q : Option Value → jmM → Prop} : AW d 90 25 [l0, l1, l2, l3, l4] [v0] m Q ↔ AW d 90 26 [l0, l1, l2, l3, l4] [.int 0, v0] m Q := A_iconst hB_X6_readInto dX6_readInto_25 (by decide)
theorem dX6_readInto_26 : decode cX6_readInto 26 = .ok (.putfield 36, 3) := by decide +kernel
theorem tX6_readInto_26 {d : Nat} {l0 l1 l2 l3 l4 : Option Value} {x : Int32} {a : Nat} {m : jmM} {Q : Option Value → jmM → Prop} : AW d 90 26 [l0, l1, l2, l3, l4] [.int x, .ref a] m Q ↔ (mS m a).1 = 6 ∧ AW d 90 29 [l0, l1, l2, l3, l4] [] (cI m a (jup (mI m a) 5 x)) Q := A_putI hB_X6_readInto dX6_readInto_26 hO_X6_readInto fF_6_36 rfl (fun h => Bool.noConfusion h)
theorem dX6_readInto_29 : decode cX6_readInto 29 = .ok (.aload_n 0, 1) := by decide +kernel
theorem tX6_readInto_29 {d : Nat} {l1 l2 l3 l4 : Option Value} {x : Nat} {m : jmM} {Q : Option Value → jmM → Prop} : AW d 90 29 [some (.ref x), l1, l2, l3, l4] [] m Q ↔ AW d 90 30 [some (.ref x), l1, l2, l3, l4] [.ref x] m Q := A_aload_n hB_X6_readInto dX6_readInto_29 rfl
theorem dX6_readInto_30 : decode cX6_readInto 30 = .ok (.getfield 21, 3) := by decide +kernel
theorem tX6_readInto_30 {d : Nat} {l0 l1 l2 l3 l4 : Option Value} {a : Nat} {m : jmM} {Q : Option Value → jmM → Prop} : AW d 90 30 [l0, l1, l2, l3, l4] [.ref a] m Q ↔ (mS m a).1 = 6 ∧ AW d 90 33 [l0, l1, l2, l3, l4] [va_rf (mR m a 1)] m Q := A_getfield (f := fun m a => va_rf (mR m a 1)) hB_X6_readInto dX6_readInto_30 hO_X6_readInto fF_6_21 rfl
theorem dX6_readInto_33 : decode cX6_readInto 33 = .ok (.invokevirtual 45, 3) := by decide +kernel
theorem tX6_readInto_33 {d : Nat} {l0 l1 l2 l3 l4 : Option Value} {a : Nat} {m : jmM} {Q : Option Value → jmM → Prop} : AW d 90 33 [l0, l1, l2, l3, l4] [.ref a] m Q ↔ (mS m a).1 = 3 ∧ CC d 25 [.ref a] m (jK d 90 36 [l0, l1, l2, l3, l4] [] Q) := A_callV hB_X6_readInto dX6_readInto_33 hO_X6_readInto fS_6_45 ⟨Nat.le_of_ble_eq_true rfl, Nat.le_of_ble_eq_true rfl⟩ rfl rfl rfl
theorem dX6_readInto_36 : decode cX6_readInto 36 = .ok (.iconst 1, 1) := by decide +kernel
theorem tX6_readInto_36 {d : Nat} {l0 l1 l2 l3 l4 : Option Value} {m : jmM} {Q : Option Value → jmM → Prop} : AW d 90 36 [l0, l1, l2, l3, l4] [] m Q ↔ AW d 90 37 [l0, l1, l2, l3, l4] [.int 1] m Q := A_iconst hB_X6_readInto dX6_readInto_36 (by decide)
theorem dX6_readInto_37 : decode cX6_readInto 37 = .ok (.istore_n 3, 1) := by decide +kernel
theorem tX6_readInto_37 {d : Nat} {l0 l1 l2 l3 l4 : Option Value} {x : Int32} {m : jmM} {Q : Option Value → jmM → Prop} : AW d 90 37 [l0, l1, l2, l3, l4] [.int x] m Q ↔ AW d 90 38 [l0, l1, jc1 l2, some (.int x), l4] [] m Q := A_istore_n hB_X6_readInto dX6_readInto_37 (Nat.le_of_ble_eq_true rfl) rfl
theorem dX6_readInto_38 : decode cX6_readInto 38 = .ok (.iconst 0, 1) := by decide +kernel
theorem tX6_readInto_38 {d : Nat} {l0 l1 l2 l3 l4 : Option Value} {m : jmM} {Q : Option Value → jmM → Prop} : AW d 90 38 [l0, l1, l2, l3, l4] [] m Q ↔ AW d 90 39 [l0, l1, l2, l3, l4] [.int 0] m Q := A_iconst hB_X6_readInto dX6_readInto_38 (by decide)
theorem dX6_readInto_39 : decode cX6_readInto 39 = .ok (.istore 4, 2) := by decide +kernel
theorem tX6_readInto_39 {d : Nat} {l0 l1 l2 l3 l4 : Option Value} {x : Int32} {m : jmM} {Q : Option Value → jmM → Prop} : AW d 90 39 [l0, l1, l2, l3, l4] [.int x] m Q ↔ AW d 90 41 [l0, l1, l2, jc1 l3, some (.int x)] [] m Q := A_istore hB_X6_readInto dX6_readInto_39 (Nat.le_of_ble_eq_true rfl) rfl
theorem dX6_readInto_41 : decode cX6_readInto 41 = .ok (.iload 4, 2) := by decide +kernel
theorem tX6_readInto_41 {d : Nat} {l0 l1 l2 l3 : Option Value} {x : Int32} {m : jmM} {Q : Option Value → jmM → Prop} : AW d 90 41 [l0, l1, l2, l3, some (.int x)] [] m Q ↔ AW d 90 43 [l0, l1, l2, l3, some (.int x)] [.int x] m Q := A_iload hB_X6_readInto dX6_readInto_41 rfl
theorem dX6_readInto_43 : decode cX6_readInto 43 = .ok (.bipush 12, 2) := by decide +kernel
theorem tX6_readInto_43 {d : Nat} {l0 l1 l2 l3 l4 : Option Value} {v0 : Value} {m : jmM} {Q : Option Value → jmM → Prop} : AW d 90 43 [l0, l1, l2, l3, l4] [v0] m Q ↔ AW d 90 45 [l0, l1, l2, l3, l4] [.int 12, v0] m Q := A_bipush hB_X6_readInto dX6_readInto_43 rfl
theorem dX6_readInto_45 : decode cX6_readInto 45 = .ok (.if_icmp .gt 50, 3) := by decide +kernel
theorem tX6_readInto_45 {d : Nat} {l0 l1 l2 l3 l4 : Option Value} {x y : Int32} {m : jmM} {Q : Option Value → jmM → Prop} : AW d 90 45 [l0, l1, l2, l3, l4] [.int y, .int x] m Q ↔ if y < x then AW d 90 95 [l0, l1, l2, l3, l4] [] m Q else AW d 90 48 [l0, l1, l2, l3, l4] [] m Q := A_icmp_gt hB_X6_readInto dX6_readInto_45 (by decide)
theorem dX6_readInto_48 : decode cX6_readInto 48 = .ok (.iload_n 3, 1) := by decide +kernel
theorem tX6_readInto_48 {d : Nat} {l0 l1 l2 l4 : Option Value} {x : Int32} {m : jmM} {Q : Option Value → jmM → Prop} : AW d 90 48 [l0, l1, l2, some (.int x), l4] [] m Q ↔ AW d 90 49 [l0, l1, l2, some (.int x), l4] [.int x] m Q := A_iload_n hB_X6_readInto dX6_readInto_48 rfl
theorem dX6_readInto_49 : decode cX6_readInto 49 = .ok (.ifCond .eq 46, 3) := by decide +kernel
theorem tX6_readInto_49 {d : Nat} {l0 l1 l2 l3 l4 : Option Value} {x : Int32} {m : jmM} {Q : Option Value → jmM → Prop} : AW d 90 49 [l0, l1, l2, l3, l4] [.int x] m Q ↔ if x = 0 then AW d 90 95 [l0, l1, l2, l3, l4] [] m Q else AW d 90 52 [l0, l1, l2, l3, l4] [] m Q := A_if_eq hB_X6_readInto dX6_readInto_49 (by decide)
theorem dX6_readInto_52 : decode cX6_readInto 52 = .ok (.aload_n 0, 1) := by decide +kernel
theorem tX6_readInto_52 {d : Nat} {l1 l2 l3 l4 : Option Value} {x : Nat} {m : jmM} {Q : Option Value → jmM → Prop} : AW d 90 52 [some (.ref x), l1, l2, l3, l4] [] m Q ↔ AW d 90 53 [some (.ref x), l1, l2, l3, l4] [.ref x] m Q := A_aload_n hB_X6_readInto dX6_readInto_52 rfl
theorem dX6_readInto_53 : decode cX6_readInto 53 = .ok (.iload 4, 2) := by decide +kernel
theorem tX6_readInto_53 {d : Nat} {l0 l1 l2 l3 : Option Value} {v0 : Value} {x : Int32} {m : jmM} {Q : Option Value → jmM → Prop} : AW d 90 53 [l0, l1, l2, l3, some (.int x)] [v0] m Q ↔ AW d 90 55 [l0, l1, l2, l3, some (.int x)] [.int x, v0] m Q := A_iload hB_X6_readInto dX6_readInto_53 rfl
theorem dX6_readInto_55 : decode cX6_readInto 55 = .ok (.invokevirtual 48, 3) := by decide +kernel
theorem tX6_readInto_55 {d : Nat} {l0 l1 l2 l3 l4 : Option Value} {y0 : Value} {a : Nat} {m : jmM} {Q : Option Value → jmM → Prop} : AW d 90 55 [l0, l1, l2, l3, l4] [y0, .ref a] m Q ↔ (mS m a).1 = 6 ∧ CC d 92 [.ref a, y0] m (jK d 90 58 [l0, l1, l2, l3, l4] [] Q) := A_callV hB_X6_readInto dX6_readInto_55 hO_X6_readInto fS_6_48 ⟨Nat.le_of_ble_eq_true rfl, Nat.le_of_ble_eq_true rfl⟩ rfl rfl rfl
theorem dX6_readInto_58 : decode cX6_readInto 58 = .ok (.aload_n 0, 1) := by decide +kernel
theorem tX6_readInto_58 {d : Nat} {l1 l2 l3 l4 : Option Value} {x : Nat} {m : jmM} {Q : Option Value → jmM → Prop} : AW d 90 58 [some (.ref x), l1, l2, l3, l4] [] m Q ↔ AW d 90 59 [some (.ref x), l1, l2, l3, l4] [.ref x] m Q := A_aload_n hB_X6_readInto dX6_readInto_58 rfl
theorem dX6_readInto_59 : decode cX6_readInto 59 = .ok (.getfield 36, 3) := by decide +kernel
theorem tX6_readInto_59 {d : Nat} {l0 l1 l2 l3 l4 : Option Value} {a : Nat} {m : jmM} {Q : Option Value → jmM → Prop} : AW d 90 59 [l0, l1, l2, l3, l4] [.ref a] m Q ↔ (mS m a).1 = 6 ∧ AW d 90 62 [l0, l1, l2, l3, l4] [.int (mI m a 5)] m Q := A_getfield (f := fun m a => .int (mI m a 5)) hB_X6_readInto dX6_readInto_59 hO_X6_readInto fF_6_36 rfl
theorem dX6_readInto_62 : decode cX6_readInto 62 = .ok (.ifCond .ne 15, 3) := by decide +kernel
theorem tX6_readInto_62 {d : Nat} {l0 l1 l2 l3 l4 : Option Value} {x : Int32} {m : jmM} {Q : Option Value → jmM → Prop} : AW d 90 62 [l0, l1, l2, l3, l4] [.int x] m Q ↔ if x = 0 then AW d 90 65 [l0, l1, l2, l3, l4] [] m Q else AW d 90 77 [l0, l1, l2, l3, l4] [] m Q := A_if_ne hB_X6_readInto dX6_readInto_62 (by decide)
theorem dX6_readInto_65 : decode cX6_readInto 65 = .ok (.aload_n 0, 1) := by decide +kernel
theorem tX6_readInto_65 {d : Nat} {l1 l2 l3 l4 : Option Value} {x : Nat} {m : jmM} {Q : Option Value → jmM → Prop} : AW d 90 65 [some (.ref x), l1, l2, l3, l4] [] m Q ↔ AW d 90 66 [some (.ref x), l1, l2, l3, l4] [.ref x] m Q := A_aload_n hB_X6_readInto dX6_readInto_65 rfl
theorem dX6_readInto_66 : decode cX6_readInto 66 = .ok (.invokevirtual 52, 3) := by decide +kernel
theorem tX6_readInto_66 {d : Nat} {l0 l1 l2 l3 l4 : Option Value} {a : Nat} {m : jmM} {Q : Option Value → jmM → Prop} : AW d 90 66 [l0, l1, l2, l3, l4] [.ref a] m Q ↔ (mS m a).1 = 6 ∧ CC d 105 [.ref a] m (jK d 90 69 [l0, l1, l2, l3, l4] [] Q) := A_callV hB_X6_readInto dX6_readInto_66 hO_X6_readInto fS_6_52 ⟨Nat.le_of_ble_eq_true rfl, Nat.le_of_ble_eq_true rfl⟩ rfl rfl rfl
theorem dX6_readInto_69 : decode cX6_readInto 69 = .ok (.iconst (-1), 1) := by decide +kernel
theorem tX6_readInto_69 {d : Nat} {l0 l1 l2 l3 l4 : Option Value} {v0 : Value} {m : jmM} {Q : Option Value → jmM → Prop} : AW d 90 69 [l0, l1, l2, l3, l4] [v0] m Q ↔ AW d 90 70 [l0, l1, l2, l3, l4] [.int (-1), v0] m Q := A_iconst hB_X6_readInto dX6_readInto_69 (by decide)
theorem dX6_readInto_70 : decode cX6_readInto 70 = .ok (.if_icmp .eq 7, 3) := by decide +kernel
theorem tX6_readInto_70 {d : Nat} {l0 l1 l2 l3 l4 : Option Value} {x y : Int32} {m : jmM} {Q : Option Value → jmM → Prop} : AW d 90 70 [l0, l1, l2, l3, l4] [.int y, .int x] m Q ↔ if x = y then AW d 90 77 [l0, l1, l2, l3, l4] [] m Q else AW d 90 73 [l0, l1, l2, l3, l4] [] m Q := A_icmp_eq hB_X6_readInto dX6_readInto_70 (by decide)
theorem dX6_readInto_73 : decode cX6_readInto 73 = .ok (.iconst 1, 1) := by decide +kernel
theorem tX6_readInto_73 {d : Nat} {l0 l1 l2 l3 l4 : Option Value} {m : jmM} {Q : Option Value → jmM → Prop} : AW d 90 73 [l0, l1, l2, l3, l4] [] m Q ↔ AW d 90 74 [l0, l1, l2, l3, l4] [.int 1] m Q := A_iconst hB_X6_readInto dX6_readInto_73 (by decide)
theorem dX6_readInto_74 : decode cX6_readInto 74 = .ok (.goto 4, 3) := by decide +kernel
theorem tX6_readInto_74 {d : Nat} {l0 l1 l2 l3 l4 : Option Value} {v0 : Value} {m : jmM} {Q : Option Value → jmM → Prop} : AW d 90 74 [l0, l1, l2, l3, l4] [v0] m Q ↔ AW d 90 78 [l0, l1, l2, l3, l4] [v0] m Q := A_goto hB_X6_readInto dX6_readInto_74 (by decide)
theorem dX6_readInto_77 : decode cX6_readInto 77 = .ok (.iconst 0, 1) := by decide +kernel
theorem tX6_readInto_77 {d : Nat} {l0 l1 l2 l3 l4 : Option Value} {m : jmM} {Q : Option Value → jmM → Prop} : AW d 90 77 [l0, l1, l2, l3, l4] [] m Q ↔ AW d 90 78 [l0, l1, l2, l3, l4] [.int 0] m Q := A_iconst hB_X6_readInto dX6_readInto_77 (by decide)
theorem dX6_readInto_78 : decode cX6_readInto 78 = .ok (.istore_n 3, 1) := by decide +kernel
theorem tX6_readInto_78 {d : Nat} {l0 l1 l2 l3 l4 : Option Value} {x : Int32} {m : jmM} {Q : Option Value → jmM → Prop} : AW d 90 78 [l0, l1, l2, l3, l4] [.int x] m Q ↔ AW d 90 79 [l0, l1, jc1 l2, some (.int x), l4] [] m Q := A_istore_n hB_X6_readInto dX6_readInto_78 (Nat.le_of_ble_eq_true rfl) rfl
theorem dX6_readInto_79 : decode cX6_readInto 79 = .ok (.iload_n 3, 1) := by decide +kernel
theorem tX6_readInto_79 {d : Nat} {l0 l1 l2 l4 : Option Value} {x : Int32} {m : jmM} {Q : Option Value → jmM → Prop} : AW d 90 79 [l0, l1, l2, some (.int x), l4] [] m Q ↔ AW d 90 80 [l0, l1, l2, some (.int x), l4] [.int x] m Q := A_iload_n hB_X6_readInto dX6_readInto_79 rfl
theorem dX6_readInto_80 : decode cX6_readInto 80 = .ok (.ifCond .eq 9, 3) := by decide +kernel
theorem tX6_readInto_80 {d : Nat} {l0 l1 l2 l3 l4 : Option Value} {x : Int32} {m : jmM} {Q : Option Value → jmM → Prop} : AW d 90 80 [l0, l1, l2, l3, l4] [.int x] m Q ↔ if x = 0 then AW d 90 89 [l0, l1, l2, l3, l4] [] m Q else AW d 90 83 [l0, l1, l2, l3, l4] [] m Q := A_if_eq hB_X6_readInto dX6_readInto_80 (by decide)
theorem dX6_readInto_83 : decode cX6_readInto 83 = .ok (.aload_n 0, 1) := by decide +kernel
theorem tX6_readInto_83 {d : Nat} {l1 l2 l3 l4 : Option Value} {x : Nat} {m : jmM} {Q : Option Value → jmM → Prop} : AW d 90 83 [some (.ref x), l1, l2, l3, l4] [] m Q ↔ AW d 90 84 [some (.ref x), l1, l2, l3, l4] [.ref x] m Q := A_aload_n hB_X6_readInto dX6_readInto_83 rfl
theorem dX6_readInto_84 : decode cX6_readInto 84 = .ok (.bipush 59, 2) := by decide +kernel
theorem tX6_readInto_84 {d : Nat} {l0 l1 l2 l3 l4 : Option Value} {v0 : Value} {m : jmM} {Q : Option Value → jmM → Prop} : AW d 90 84 [l0, l1, l2, l3, l4] [v0] m Q ↔ AW d 90 86 [l0, l1, l2, l3, l4] [.int 59, v0] m Q := A_bipush hB_X6_readInto dX6_readInto_84 rfl
theorem dX6_readInto_86 : decode cX6_readInto 86 = .ok (.invokevirtual 56, 3) := by decide +kernel
theorem tX6_readInto_86 {d : Nat} {l0 l1 l2 l3 l4 : Option Value} {y0 : Value} {a : Nat} {m : jmM} {Q : Option Value → jmM → Prop} : AW d 90 86 [l0, l1, l2, l3, l4] [y0, .ref a] m Q ↔ (mS m a).1 = 6 ∧ CC d 106 [.ref a, y0] m (jK d 90 89 [l0, l1, l2, l3, l4] [] Q) := A_callV hB_X6_readInto dX6_readInto_86 hO_X6_readInto fS_6_56 ⟨Nat.le_of_ble_eq_true rfl, Nat.le_of_ble_eq_true rfl⟩ rfl rfl rfl
theorem dX6_readInto_89 : decode cX6_readInto 89 = .ok (.iinc 4 1, 3) := by decide +kernel
theorem tX6_readInto_89 {d : Nat} {l0 l1 l2 l3 : Option Value} {x : Int32} {m : jmM} {Q : Option Value → jmM → Prop} : AW d 90 89 [l0, l1, l2, l3, some (.int x)] [] m Q ↔ AW d 90 92 [l0, l1, l2, jc1 l3, some (.int (x + 1))] [] m Q := A_iinc hB_X6_readInto dX6_readInto_89 rfl (Nat.le_of_ble_eq_true rfl) (v := 1) (by decide) rfl
theorem dX6_readInto_92 : decode cX6_readInto 92 = .ok (.goto (-51), 3) := by decide +kernel
theorem tX6_readInto_92 {d : Nat} {l0 l1 l2 l3 l4 : Option Value} {m : jmM} {Q : Option Value → jmM → Prop} : AW d 90 92 [l0, l1, l2, l3, l4] [] m Q ↔ AW d 90 41 [l0, l1, l2, l3, l4] [] m Q := A_goto hB_X6_readInto dX6_readInto_92 (by decide)
theorem dX6_readInto_95 : decode cX6_readInto 95 = .ok (.aload_n 0, 1) := by decide +kernel
theorem tX6_readInto_95 {d : Nat} {l1 l2 l3 l4 : Option Value} {x : Nat} {m : jmM} {Q : Option Value → jmM → Prop} : AW d 90 95 [some (.ref x), l1, l2, l3, l4] [] m Q ↔ AW d 90 96 [some (.ref x), l1, l2, l3, l4] [.ref x] m Q := A_aload_n hB_X6_readInto dX6_readInto_95 rfl
theorem dX6_readInto_96 : decode cX6_readInto 96 = .ok (.getfield 12, 3) := by decide +kernel
theorem tX6_readInto_96 {d : Nat} {l0 l1 l2 l3 l4 : Option Value} {a : Nat} {m : jmM} {Q : Option Value → jmM → Prop} : AW d 90 96 [l0, l1, l2, l3, l4] [.ref a] m Q ↔ (mS m a).1 = 6 ∧ AW d 90 99 [l0, l1, l2, l3, l4] [va_rf (mR m a 0)] m Q := A_getfield (f := fun m a => va_rf (mR m a 0)) hB_X6_readInto dX6_readInto_96 hO_X6_readInto fF_6_12 rfl
theorem dX6_readInto_99 : decode cX6_readInto 99 = .ok (.iconst 0, 1) := by decide +kernel
theorem tX6_readInto_99 {d : Nat} {l0 l1 l2 l3 l4 : Option Value} {v0 : Value} {m : jmM} {Q : Option Value → jmM → Prop} : AW d 90 99 [l0, l1, l2, l3, l4] [v0] m Q ↔ AW d 90 100 [l0, l1, l2, l3, l4] [.int 0, v0] m Q := A_iconst hB_X6_readInto dX6_readInto_99 (by decide)
theorem dX6_readInto_100 : decode cX6_readInto 100 = .ok (.invokevirtual 59, 3) := by decide +kernel
theorem tX6_readInto_100 {d : Nat} {l0 l1 l2 l3 l4 : Option Value} {y0 : Value} {a : Nat} {m : jmM} {Q : Option Value → jmM → Prop} : AW d 90 100 [l0, l1, l2, l3, l4] [y0, .ref a] m Q ↔ (mS m a).1 = 9 ∧ CC d 133 [.ref a, y0] m (jK d 90 103 [l0, l1, l2, l3, l4] [] Q) := A_callV hB_X6_readInto dX6_readInto_100 hO_X6_readInto fS_6_59 ⟨Nat.le_of_ble_eq_true rfl, Nat.le_of_ble_eq_true rfl⟩ rfl rfl rfl
theorem dX6_readInto_103 : decode cX6_readInto 103 = .ok (.aload_n 0, 1) := by decide +kernel
theorem tX6_readInto_103 {d : Nat} {l1 l2 l3 l4 : Option Value} {x : Nat} {m : jmM} {Q : Option Value → jmM → Prop} : AW d 90 103 [some (.ref x), l1, l2, l3, l4] [] m Q ↔ AW d 90 104 [some (.ref x), l1, l2, l3, l4] [.ref x] m Q := A_aload_n hB_X6_readInto dX6_readInto_103 rfl
theorem dX6_readInto_104 : decode cX6_readInto 104 = .ok (.getfield 36, 3) := by decide +kernel
theorem tX6_readInto_104 {d : Nat} {l0 l1 l2 l3 l4 : Option Value} {a : Nat} {m : jmM} {Q : Option Value → jmM → Prop} : AW d 90 104 [l0, l1, l2, l3, l4] [.ref a] m Q ↔ (mS m a).1 = 6 ∧ AW d 90 107 [l0, l1, l2, l3, l4] [.int (mI m a 5)] m Q := A_getfield (f := fun m a => .int (mI m a 5)) hB_X6_readInto dX6_readInto_104 hO_X6_readInto fF_6_36 rfl
theorem dX6_readInto_107 : decode cX6_readInto 107 = .ok (.ifCond .ne 14, 3) := by decide +kernel
theorem tX6_readInto_107 {d : Nat} {l0 l1 l2 l3 l4 : Option Value} {x : Int32} {m : jmM} {Q : Option Value → jmM → Prop} : AW d 90 107 [l0, l1, l2, l3, l4] [.int x] m Q ↔ if x = 0 then AW d 90 110 [l0, l1, l2, l3, l4] [] m Q else AW d 90 121 [l0, l1, l2, l3, l4] [] m Q := A_if_ne hB_X6_readInto dX6_readInto_107 (by decide)
theorem dX6_readInto_110 : decode cX6_readInto 110 = .ok (.aload_n 1, 1) := by decide +kernel
theorem tX6_readInto_110 {d : Nat} {l0 l2 l3 l4 : Option Value} {x : Nat} {m : jmM} {Q : Option Value → jmM → Prop} : AW d 90 110 [l0, some (.ref x), l2, l3, l4] [] m Q ↔ AW d 90 111 [l0, some (.ref x), l2, l3, l4] [.ref x] m Q := A_aload_n hB_X6_readInto dX6_readInto_110 rfl
theorem dX6_readInto_111 : decode cX6_readInto 111 = .ok (.aload_n 0, 1) := by decide +kernel
theorem tX6_readInto_111 {d : Nat} {l1 l2 l3 l4 : Option Value} {v0 : Value} {x : Nat} {m : jmM} {Q : Option Value → jmM → Prop} : AW d 90 111 [some (.ref x), l1, l2, l3, l4] [v0] m Q ↔ AW d 90 112 [some (.ref x), l1, l2, l3, l4] [.ref x, v0] m Q := A_aload_n hB_X6_readInto dX6_readInto_111 rfl
theorem dX6_readInto_112 : decode cX6_readInto 112 = .ok (.getfield 21, 3) := by decide +kernel
theorem tX6_readInto_112 {d : Nat} {l0 l1 l2 l3 l4 : Option Value} {v1 : Value} {a : Nat} {m : jmM} {Q : Option Value → jmM → Prop} : AW d 90 112 [l0, l1, l2, l3, l4] [.ref a, v1] m Q ↔ (mS m a).1 = 6 ∧ AW d 90 115 [l0, l1, l2, l3, l4] [va_rf (mR m a 1), v1] m Q := A_getfield (f := fun m a => va_rf (mR m a 1)) hB_X6_readInto dX6_readInto_112 hO_X6_readInto fF_6_21 rfl
theorem dX6_readInto_115 : decode cX6_readInto 115 = .ok (.invokevirtual 62, 3) := by decide +kernel
theorem tX6_readInto_115 {d : Nat} {l0 l1 l2 l3 l4 : Option Value} {y0 : Value} {a : Nat} {m : jmM} {Q : Option Value → jmM → Prop} : AW d 90 115 [l0, l1, l2, l3, l4] [y0, .ref a] m Q ↔ (mS m a).1 = 4 ∧ CC d 44 [.ref a, y0] m (jK d 90 118 [l0, l1, l2, l3, l4] [] Q) := A_callV hB_X6_readInto dX6_readInto_115 hO_X6_readInto fS_6_62 ⟨Nat.le_of_ble_eq_true rfl, Nat.le_of_ble_eq_true rfl⟩ rfl rfl rfl
theorem dX6_readInto_118 : decode cX6_readInto 118 = .ok (.goto 10, 3) := by decide +kernel
theorem tX6_readInto_118 {d : Nat} {l0 l1 l2 l3 l4 : Option Value} {v0 : Value} {m : jmM} {Q : Option Value → jmM → Prop} : AW d 90 118 [l0, l1, l2, l3, l4] [v0] m Q ↔ AW d 90 128 [l0, l1, l2, l3, l4] [v0] m Q := A_goto hB_X6_readInto dX6_readInto_118 (by decide)
theorem dX6_readInto_121 : decode cX6_readInto 121 = .ok (.bipush (-2), 2) := by decide +kernel
theorem tX6_readInto_121 {d : Nat} {l0 l1 l2 l3 l4 : Option Value} {m : jmM} {Q : Option Value → jmM → Prop} : AW d 90 121 [l0, l1, l2, l3, l4] [] m Q ↔ AW d 90 123 [l0, l1, l2, l3, l4] [.int (-2)] m Q := A_bipush hB_X6_readInto dX6_readInto_121 rfl
theorem dX6_readInto_123 : decode cX6_readInto 123 = .ok (.aload_n 0, 1) := by decide +kernel
theorem tX6_readInto_123 {d : Nat} {l1 l2 l3 l4 : Option Value} {v0 : Value} {x : Nat} {m : jmM} {Q : Option Value → jmM → Prop} : AW d 90 123 [some (.ref x), l1, l2, l3, l4] [v0] m Q ↔ AW d 90 124 [some (.ref x), l1, l2, l3, l4] [.ref x, v0] m Q := A_aload_n hB_X6_readInto dX6_readInto_123 rfl
theorem dX6_readInto_124 : decode cX6_readInto 124 = .ok (.getfield 36, 3) := by decide +kernel
theorem tX6_readInto_124 {d : Nat} {l0 l1 l2 l3 l4 : Option Value} {v1 : Value} {a : Nat} {m : jmM} {Q : Option Value → jmM → Prop} : AW d 90 124 [l0, l1, l2, l3, l4] [.ref a, v1] m Q ↔ (mS m a).1 = 6 ∧ AW d 90 127 [l0, l1, l2, l3, l4] [.int (mI m a 5), v1] m Q := A_getfield (f := fun m a => .int (mI m a 5)) hB_X6_readInto dX6_readInto_124 hO_X6_readInto fF_6_36 rfl
theorem dX6_readInto_127 : decode cX6_readInto 127 = .ok (.isub, 1) := by decide +kernel
theorem tX6_readInto_127 {d : Nat} {l0 l1 l2 l3 l4 : Option Value} {x y : Int32} {m : jmM} {Q : Option Value → jmM → Prop} : AW d 90 127 [l0, l1, l2, l3, l4] [.int y, .int x] m Q ↔ AW d 90 128 [l0, l1, l2, l3, l4] [.int (x - y)] m Q := A_isub hB_X6_readInto dX6_readInto_127
theorem dX6_readInto_128 : decode cX6_readInto 128 = .ok (.ireturn, 1) := by decide +kernel
theorem tX6_readInto_128 {d : Nat} {l0 l1 l2 l3 l4 : Option Value} {x : Int32} {m : jmM} {Q : Option Value → jmM → Prop} : AW d 90 128 [l0, l1, l2, l3, l4] [.int x] m Q ↔ Q (some (.int x)) m := A_ireturn hB_X6_readInto dX6_readInto_128 hR_X6_readInto
theorem hB_X6_fail : jB 91 = cX6_fail := rfl
theorem hO_X6_fail : jO 91 = 6 := rfl
theorem hR_X6_fail : jRt 91 = none := rfl
theorem nX6_fail (d : Nat) (x0 : Nat) (x1 : Int32) (x2 : Int32) (m : jmM) (Q : Option Value → jmM → Prop) : CC (d + 1) 91 [.ref x0, .int x1, .int x2] m Q ↔ AW d 91 0 [some (.ref x0), some (.int x1), some (.int x2)] [] m Q := CC_body (Nat.le_of_ble_eq_true rfl)
theorem dX6_fail_0 : decode cX6_fail 0 = .ok (.aload_n 0, 1) := by decide +kernel
theorem tX6_fail_0 {d : Nat} {l1 l2 : Option Value} {x : Nat} {m : jmM} {Q : Option Value → jmM → Prop} : AW d 91 0 [some (.ref x), l1, l2] [] m Q ↔ AW d 91 1 [some (.ref x), l1, l2] [.ref x] m Q := A_aload_n hB_X6_fail dX6_fail_0 rfl
theorem dX6_fail_1 : decode cX6_fail 1 = .ok (.getfield 36, 3) := by decide +kernel
theorem tX6_fail_1 {d : Nat} {l0 l1 l2 : Option Value} {a : Nat} {m : jmM} {Q : Option Value → jmM → Prop} : AW d 91 1 [l0, l1, l2] [.ref a] m Q ↔ (mS m a).1 = 6 ∧ AW d 91 4 [l0, l1, l2] [.int (mI m a 5)] m Q := A_getfield (f := fun m a => .int (mI m a 5)) hB_X6_fail dX6_fail_1 hO_X6_fail fF_6_36 rfl
theorem dX6_fail_4 : decode cX6_fail 4 = .ok (.ifCond .ne 15, 3) := by decide +kernel
theorem tX6_fail_4 {d : Nat} {l0 l1 l2 : Option Value} {x : Int32} {m : jmM} {Q : Option Value → jmM → Prop} : AW d 91 4 [l0, l1, l2] [.int x] m Q ↔ if x = 0 then AW d 91 7 [l0, l1, l2] [] m Q else AW d 91 19 [l0, l1, l2] [] m Q := A_if_ne hB_X6_fail dX6_fail_4 (by decide)
theorem dX6_fail_7 : decode cX6_fail 7 = .ok (.aload_n 0, 1) := by decide +kernel
theorem tX6_fail_7 {d : Nat} {l1 l2 : Option Value} {x : Nat} {m : jmM} {Q : Option Value → jmM → Prop} : AW d 91 7 [some (.ref x), l1, l2] [] m Q ↔ AW d 91 8 [some (.ref x), l1, l2] [.ref x] m Q := A_aload_n hB_X6_fail dX6_fail_7 rfl
theorem dX6_fail_8 : decode cX6_fail 8 = .ok (.iconst 1, 1) := by decide +kernel
theorem tX6_fail_8 {d : Nat} {l0 l1 l2 : Option Value} {v0 : Value} {m : jmM} {Q : Option Value → jmM → Prop} : AW d 91 8 [l0, l1, l2] [v0] m Q ↔ AW d 91 9 [l0, l1, l2] [.int 1, v0] m Q := A_iconst hB_X6_fail dX6_fail_8 (by decide)
theorem dX6_fail_9 : decode cX6_fail 9 = .ok (.bipush 8, 2) := by decide +kernel
theorem tX6_fail_9 {d : Nat} {l0 l1 l2 : Option Value} {v0 v1 : Value} {m : jmM} {Q : Option Value → jmM → Prop} : AW d 91 9 [l0, l1, l2] [v0, v1] m Q ↔ AW d 91 11 [l0, l1, l2] [.int 8, v0, v1] m Q := A_bipush hB_X6_fail dX6_fail_9 rfl
theorem dX6_fail_11 : decode cX6_fail 11 = .ok (.iload_n 1, 1) := by decide +kernel
theorem tX6_fail_11 {d : Nat} {l0 l2 : Option Value} {v0 v1 v2 : Value} {x : Int32} {m : jmM} {Q : Option Value → jmM → Prop} : AW d 91 11 [l0, some (.int x), l2] [v0, v1, v2] m Q ↔ AW d 91 12 [l0, some (.int x), l2] [.int x, v0, v1, v2] m Q := A_iload_n hB_X6_fail dX6_fail_11 rfl
theorem dX6_fail_12 : decode cX6_fail 12 = .ok (.imul, 1) := by decide +kernel
theorem tX6_fail_12 {d : Nat} {l0 l1 l2 : Option Value} {v2 v3 : Value} {x y : Int32} {m : jmM} {Q : Option Value → jmM → Prop} : AW d 91 12 [l0, l1, l2] [.int y, .int x, v2, v3] m Q ↔ AW d 91 13 [l0, l1, l2] [.int (x * y), v2, v3] m Q := A_imul hB_X6_fail dX6_fail_12
theorem dX6_fail_13 : decode cX6_fail 13 = .ok (.iadd, 1) := by decide +kernel
theorem tX6_fail_13 {d : Nat} {l0 l1 l2 : Option Value} {v2 : Value} {x y : Int32} {m : jmM} {Q : Option Value → jmM → Prop} : AW d 91 13 [l0, l1, l2] [.int y, .int x, v2] m Q ↔ AW d 91 14 [l0, l1, l2] [.int (x + y), v2] m Q := A_iadd hB_X6_fail dX6_fail_13
theorem dX6_fail_14 : decode cX6_fail 14 = .ok (.iload_n 2, 1) := by decide +kernel
theorem tX6_fail_14 {d : Nat} {l0 l1 : Option Value} {v0 v1 : Value} {x : Int32} {m : jmM} {Q : Option Value → jmM → Prop} : AW d 91 14 [l0, l1, some (.int x)] [v0, v1] m Q ↔ AW d 91 15 [l0, l1, some (.int x)] [.int x, v0, v1] m Q := A_iload_n hB_X6_fail dX6_fail_14 rfl
theorem dX6_fail_15 : decode cX6_fail 15 = .ok (.iadd, 1) := by decide +kernel
theorem tX6_fail_15 {d : Nat} {l0 l1 l2 : Option Value} {v2 : Value} {x y : Int32} {m : jmM} {Q : Option Value → jmM → Prop} : AW d 91 15 [l0, l1, l2] [.int y, .int x, v2] m Q ↔ AW d 91 16 [l0, l1, l2] [.int (x + y), v2] m Q := A_iadd hB_X6_fail dX6_fail_15
theorem dX6_fail_16 : decode cX6_fail 16 = .ok (.putfield 36, 3) := by decide +kernel
theorem tX6_fail_16 {d : Nat} {l0 l1 l2 : Option Value} {x : Int32} {a : Nat} {m : jmM} {Q : Option Value → jmM → Prop} : AW d 91 16 [l0, l1, l2] [.int x, .ref a] m Q ↔ (mS m a).1 = 6 ∧ AW d 91 19 [l0, l1, l2] [] (cI m a (jup (mI m a) 5 x)) Q := A_putI hB_X6_fail dX6_fail_16 hO_X6_fail fF_6_36 rfl (fun h => Bool.noConfusion h)
theorem dX6_fail_19 : decode cX6_fail 19 = .ok (.return_, 1) := by decide +kernel
theorem tX6_fail_19 {d : Nat} {l0 l1 l2 : Option Value} {m : jmM} {Q : Option Value → jmM → Prop} : AW d 91 19 [l0, l1, l2] [] m Q ↔ Q none m := A_return hB_X6_fail dX6_fail_19 hR_X6_fail
theorem hB_X6_readClause : jB 92 = cX6_readClause := rfl
theorem hO_X6_readClause : jO 92 = 6 := rfl
theorem hR_X6_readClause : jRt 92 = none := rfl
theorem nX6_readClause (d : Nat) (x0 : Nat) (x1 : Int32) (m : jmM) (Q : Option Value → jmM → Prop) : CC (d + 1) 92 [.ref x0, .int x1] m Q ↔ AW d 92 0 [some (.ref x0), some (.int x1), none, none, none] [] m Q := CC_body (Nat.le_of_ble_eq_true rfl)
theorem dX6_readClause_0 : decode cX6_readClause 0 = .ok (.aload_n 0, 1) := by decide +kernel
theorem tX6_readClause_0 {d : Nat} {l1 l2 l3 l4 : Option Value} {x : Nat} {m : jmM} {Q : Option Value → jmM → Prop} : AW d 92 0 [some (.ref x), l1, l2, l3, l4] [] m Q ↔ AW d 92 1 [some (.ref x), l1, l2, l3, l4] [.ref x] m Q := A_aload_n hB_X6_readClause dX6_readClause_0 rfl
theorem dX6_readClause_1 : decode cX6_readClause 1 = .ok (.invokevirtual 52, 3) := by decide +kernel
theorem tX6_readClause_1 {d : Nat} {l0 l1 l2 l3 l4 : Option Value} {a : Nat} {m : jmM} {Q : Option Value → jmM → Prop} : AW d 92 1 [l0, l1, l2, l3, l4] [.ref a] m Q ↔ (mS m a).1 = 6 ∧ CC d 105 [.ref a] m (jK d 92 4 [l0, l1, l2, l3, l4] [] Q) := A_callV hB_X6_readClause dX6_readClause_1 hO_X6_readClause fS_6_52 ⟨Nat.le_of_ble_eq_true rfl, Nat.le_of_ble_eq_true rfl⟩ rfl rfl rfl
theorem dX6_readClause_4 : decode cX6_readClause 4 = .ok (.pop, 1) := by decide +kernel
theorem tX6_readClause_4 {d : Nat} {l0 l1 l2 l3 l4 : Option Value} {x : Int32} {m : jmM} {Q : Option Value → jmM → Prop} : AW d 92 4 [l0, l1, l2, l3, l4] [.int x] m Q ↔ AW d 92 5 [l0, l1, l2, l3, l4] [] m Q := A_pop_i hB_X6_readClause dX6_readClause_4
theorem dX6_readClause_5 : decode cX6_readClause 5 = .ok (.aload_n 0, 1) := by decide +kernel
theorem tX6_readClause_5 {d : Nat} {l1 l2 l3 l4 : Option Value} {x : Nat} {m : jmM} {Q : Option Value → jmM → Prop} : AW d 92 5 [some (.ref x), l1, l2, l3, l4] [] m Q ↔ AW d 92 6 [some (.ref x), l1, l2, l3, l4] [.ref x] m Q := A_aload_n hB_X6_readClause dX6_readClause_5 rfl
theorem dX6_readClause_6 : decode cX6_readClause 6 = .ok (.invokevirtual 66, 3) := by decide +kernel
theorem tX6_readClause_6 {d : Nat} {l0 l1 l2 l3 l4 : Option Value} {a : Nat} {m : jmM} {Q : Option Value → jmM → Prop} : AW d 92 6 [l0, l1, l2, l3, l4] [.ref a] m Q ↔ (mS m a).1 = 6 ∧ CC d 93 [.ref a] m (jK d 92 9 [l0, l1, l2, l3, l4] [] Q) := A_callV hB_X6_readClause dX6_readClause_6 hO_X6_readClause fS_6_66 ⟨Nat.le_of_ble_eq_true rfl, Nat.le_of_ble_eq_true rfl⟩ rfl rfl rfl
theorem dX6_readClause_9 : decode cX6_readClause 9 = .ok (.istore_n 2, 1) := by decide +kernel
theorem tX6_readClause_9 {d : Nat} {l0 l1 l2 l3 l4 : Option Value} {x : Int32} {m : jmM} {Q : Option Value → jmM → Prop} : AW d 92 9 [l0, l1, l2, l3, l4] [.int x] m Q ↔ AW d 92 10 [l0, jc1 l1, some (.int x), l3, l4] [] m Q := A_istore_n hB_X6_readClause dX6_readClause_9 (Nat.le_of_ble_eq_true rfl) rfl
theorem dX6_readClause_10 : decode cX6_readClause 10 = .ok (.iload_n 2, 1) := by decide +kernel
theorem tX6_readClause_10 {d : Nat} {l0 l1 l3 l4 : Option Value} {x : Int32} {m : jmM} {Q : Option Value → jmM → Prop} : AW d 92 10 [l0, l1, some (.int x), l3, l4] [] m Q ↔ AW d 92 11 [l0, l1, some (.int x), l3, l4] [.int x] m Q := A_iload_n hB_X6_readClause dX6_readClause_10 rfl
theorem dX6_readClause_11 : decode cX6_readClause 11 = .ok (.iconst (-1), 1) := by decide +kernel
theorem tX6_readClause_11 {d : Nat} {l0 l1 l2 l3 l4 : Option Value} {v0 : Value} {m : jmM} {Q : Option Value → jmM → Prop} : AW d 92 11 [l0, l1, l2, l3, l4] [v0] m Q ↔ AW d 92 12 [l0, l1, l2, l3, l4] [.int (-1), v0] m Q := A_iconst hB_X6_readClause dX6_readClause_11 (by decide)
theorem dX6_readClause_12 : decode cX6_readClause 12 = .ok (.if_icmp .ne 13, 3) := by decide +kernel
theorem tX6_readClause_12 {d : Nat} {l0 l1 l2 l3 l4 : Option Value} {x y : Int32} {m : jmM} {Q : Option Value → jmM → Prop} : AW d 92 12 [l0, l1, l2, l3, l4] [.int y, .int x] m Q ↔ if x = y then AW d 92 15 [l0, l1, l2, l3, l4] [] m Q else AW d 92 25 [l0, l1, l2, l3, l4] [] m Q := A_icmp_ne hB_X6_readClause dX6_readClause_12 (by decide)
theorem dX6_readClause_15 : decode cX6_readClause 15 = .ok (.aload_n 0, 1) := by decide +kernel
theorem tX6_readClause_15 {d : Nat} {l1 l2 l3 l4 : Option Value} {x : Nat} {m : jmM} {Q : Option Value → jmM → Prop} : AW d 92 15 [some (.ref x), l1, l2, l3, l4] [] m Q ↔ AW d 92 16 [some (.ref x), l1, l2, l3, l4] [.ref x] m Q := A_aload_n hB_X6_readClause dX6_readClause_15 rfl
theorem dX6_readClause_16 : decode cX6_readClause 16 = .ok (.aload_n 0, 1) := by decide +kernel
theorem tX6_readClause_16 {d : Nat} {l1 l2 l3 l4 : Option Value} {v0 : Value} {x : Nat} {m : jmM} {Q : Option Value → jmM → Prop} : AW d 92 16 [some (.ref x), l1, l2, l3, l4] [v0] m Q ↔ AW d 92 17 [some (.ref x), l1, l2, l3, l4] [.ref x, v0] m Q := A_aload_n hB_X6_readClause dX6_readClause_16 rfl
theorem dX6_readClause_17 : decode cX6_readClause 17 = .ok (.getfield 29, 3) := by decide +kernel
theorem tX6_readClause_17 {d : Nat} {l0 l1 l2 l3 l4 : Option Value} {v1 : Value} {a : Nat} {m : jmM} {Q : Option Value → jmM → Prop} : AW d 92 17 [l0, l1, l2, l3, l4] [.ref a, v1] m Q ↔ (mS m a).1 = 6 ∧ AW d 92 20 [l0, l1, l2, l3, l4] [.int (mI m a 3), v1] m Q := A_getfield (f := fun m a => .int (mI m a 3)) hB_X6_readClause dX6_readClause_17 hO_X6_readClause fF_6_29 rfl
theorem dX6_readClause_20 : decode cX6_readClause 20 = .ok (.iconst 0, 1) := by decide +kernel
theorem tX6_readClause_20 {d : Nat} {l0 l1 l2 l3 l4 : Option Value} {v0 v1 : Value} {m : jmM} {Q : Option Value → jmM → Prop} : AW d 92 20 [l0, l1, l2, l3, l4] [v0, v1] m Q ↔ AW d 92 21 [l0, l1, l2, l3, l4] [.int 0, v0, v1] m Q := A_iconst hB_X6_readClause dX6_readClause_20 (by decide)
theorem dX6_readClause_21 : decode cX6_readClause 21 = .ok (.invokevirtual 69, 3) := by decide +kernel
theorem tX6_readClause_21 {d : Nat} {l0 l1 l2 l3 l4 : Option Value} {y0 y1 : Value} {a : Nat} {m : jmM} {Q : Option Value → jmM → Prop} : AW d 92 21 [l0, l1, l2, l3, l4] [y0, y1, .ref a] m Q ↔ (mS m a).1 = 6 ∧ CC d 91 [.ref a, y1, y0] m (jK d 92 24 [l0, l1, l2, l3, l4] [] Q) := A_callV hB_X6_readClause dX6_readClause_21 hO_X6_readClause fS_6_69 ⟨Nat.le_of_ble_eq_true rfl, Nat.le_of_ble_eq_true rfl⟩ rfl rfl rfl
theorem dX6_readClause_24 : decode cX6_readClause 24 = .ok (.return_, 1) := by decide +kernel
theorem tX6_readClause_24 {d : Nat} {l0 l1 l2 l3 l4 : Option Value} {m : jmM} {Q : Option Value → jmM → Prop} : AW d 92 24 [l0, l1, l2, l3, l4] [] m Q ↔ Q none m := A_return hB_X6_readClause dX6_readClause_24 hR_X6_readClause
theorem dX6_readClause_25 : decode cX6_readClause 25 = .ok (.iload_n 1, 1) := by decide +kernel
theorem tX6_readClause_25 {d : Nat} {l0 l2 l3 l4 : Option Value} {x : Int32} {m : jmM} {Q : Option Value → jmM → Prop} : AW d 92 25 [l0, some (.int x), l2, l3, l4] [] m Q ↔ AW d 92 26 [l0, some (.int x), l2, l3, l4] [.int x] m Q := A_iload_n hB_X6_readClause dX6_readClause_25 rfl
theorem dX6_readClause_26 : decode cX6_readClause 26 = .ok (.bipush 12, 2) := by decide +kernel
theorem tX6_readClause_26 {d : Nat} {l0 l1 l2 l3 l4 : Option Value} {v0 : Value} {m : jmM} {Q : Option Value → jmM → Prop} : AW d 92 26 [l0, l1, l2, l3, l4] [v0] m Q ↔ AW d 92 28 [l0, l1, l2, l3, l4] [.int 12, v0] m Q := A_bipush hB_X6_readClause dX6_readClause_26 rfl
theorem dX6_readClause_28 : decode cX6_readClause 28 = .ok (.if_icmp .ge 14, 3) := by decide +kernel
theorem tX6_readClause_28 {d : Nat} {l0 l1 l2 l3 l4 : Option Value} {x y : Int32} {m : jmM} {Q : Option Value → jmM → Prop} : AW d 92 28 [l0, l1, l2, l3, l4] [.int y, .int x] m Q ↔ if y ≤ x then AW d 92 42 [l0, l1, l2, l3, l4] [] m Q else AW d 92 31 [l0, l1, l2, l3, l4] [] m Q := A_icmp_ge hB_X6_readClause dX6_readClause_28 (by decide)
theorem dX6_readClause_31 : decode cX6_readClause 31 = .ok (.aload_n 0, 1) := by decide +kernel
theorem tX6_readClause_31 {d : Nat} {l1 l2 l3 l4 : Option Value} {x : Nat} {m : jmM} {Q : Option Value → jmM → Prop} : AW d 92 31 [some (.ref x), l1, l2, l3, l4] [] m Q ↔ AW d 92 32 [some (.ref x), l1, l2, l3, l4] [.ref x] m Q := A_aload_n hB_X6_readClause dX6_readClause_31 rfl
theorem dX6_readClause_32 : decode cX6_readClause 32 = .ok (.getfield 21, 3) := by decide +kernel
theorem tX6_readClause_32 {d : Nat} {l0 l1 l2 l3 l4 : Option Value} {a : Nat} {m : jmM} {Q : Option Value → jmM → Prop} : AW d 92 32 [l0, l1, l2, l3, l4] [.ref a] m Q ↔ (mS m a).1 = 6 ∧ AW d 92 35 [l0, l1, l2, l3, l4] [va_rf (mR m a 1)] m Q := A_getfield (f := fun m a => va_rf (mR m a 1)) hB_X6_readClause dX6_readClause_32 hO_X6_readClause fF_6_21 rfl
theorem dX6_readClause_35 : decode cX6_readClause 35 = .ok (.iload_n 2, 1) := by decide +kernel
theorem tX6_readClause_35 {d : Nat} {l0 l1 l3 l4 : Option Value} {v0 : Value} {x : Int32} {m : jmM} {Q : Option Value → jmM → Prop} : AW d 92 35 [l0, l1, some (.int x), l3, l4] [v0] m Q ↔ AW d 92 36 [l0, l1, some (.int x), l3, l4] [.int x, v0] m Q := A_iload_n hB_X6_readClause dX6_readClause_35 rfl
theorem dX6_readClause_36 : decode cX6_readClause 36 = .ok (.invokevirtual 73, 3) := by decide +kernel
theorem tX6_readClause_36 {d : Nat} {l0 l1 l2 l3 l4 : Option Value} {y0 : Value} {a : Nat} {m : jmM} {Q : Option Value → jmM → Prop} : AW d 92 36 [l0, l1, l2, l3, l4] [y0, .ref a] m Q ↔ (mS m a).1 = 3 ∧ CC d 30 [.ref a, y0] m (jK d 92 39 [l0, l1, l2, l3, l4] [] Q) := A_callV hB_X6_readClause dX6_readClause_36 hO_X6_readClause fS_6_73 ⟨Nat.le_of_ble_eq_true rfl, Nat.le_of_ble_eq_true rfl⟩ rfl rfl rfl
theorem dX6_readClause_39 : decode cX6_readClause 39 = .ok (.ifCond .eq 13, 3) := by decide +kernel
theorem tX6_readClause_39 {d : Nat} {l0 l1 l2 l3 l4 : Option Value} {x : Int32} {m : jmM} {Q : Option Value → jmM → Prop} : AW d 92 39 [l0, l1, l2, l3, l4] [.int x] m Q ↔ if x = 0 then AW d 92 52 [l0, l1, l2, l3, l4] [] m Q else AW d 92 42 [l0, l1, l2, l3, l4] [] m Q := A_if_eq hB_X6_readClause dX6_readClause_39 (by decide)
theorem dX6_readClause_42 : decode cX6_readClause 42 = .ok (.aload_n 0, 1) := by decide +kernel
theorem tX6_readClause_42 {d : Nat} {l1 l2 l3 l4 : Option Value} {x : Nat} {m : jmM} {Q : Option Value → jmM → Prop} : AW d 92 42 [some (.ref x), l1, l2, l3, l4] [] m Q ↔ AW d 92 43 [some (.ref x), l1, l2, l3, l4] [.ref x] m Q := A_aload_n hB_X6_readClause dX6_readClause_42 rfl
theorem dX6_readClause_43 : decode cX6_readClause 43 = .ok (.aload_n 0, 1) := by decide +kernel
theorem tX6_readClause_43 {d : Nat} {l1 l2 l3 l4 : Option Value} {v0 : Value} {x : Nat} {m : jmM} {Q : Option Value → jmM → Prop} : AW d 92 43 [some (.ref x), l1, l2, l3, l4] [v0] m Q ↔ AW d 92 44 [some (.ref x), l1, l2, l3, l4] [.ref x, v0] m Q := A_aload_n hB_X6_readClause dX6_readClause_43 rfl
theorem dX6_readClause_44 : decode cX6_readClause 44 = .ok (.getfield 29, 3) := by decide +kernel
theorem tX6_readClause_44 {d : Nat} {l0 l1 l2 l3 l4 : Option Value} {v1 : Value} {a : Nat} {m : jmM} {Q : Option Value → jmM → Prop} : AW d 92 44 [l0, l1, l2, l3, l4] [.ref a, v1] m Q ↔ (mS m a).1 = 6 ∧ AW d 92 47 [l0, l1, l2, l3, l4] [.int (mI m a 3), v1] m Q := A_getfield (f := fun m a => .int (mI m a 3)) hB_X6_readClause dX6_readClause_44 hO_X6_readClause fF_6_29 rfl
theorem dX6_readClause_47 : decode cX6_readClause 47 = .ok (.iconst 4, 1) := by decide +kernel
theorem tX6_readClause_47 {d : Nat} {l0 l1 l2 l3 l4 : Option Value} {v0 v1 : Value} {m : jmM} {Q : Option Value → jmM → Prop} : AW d 92 47 [l0, l1, l2, l3, l4] [v0, v1] m Q ↔ AW d 92 48 [l0, l1, l2, l3, l4] [.int 4, v0, v1] m Q := A_iconst hB_X6_readClause dX6_readClause_47 (by decide)
theorem dX6_readClause_48 : decode cX6_readClause 48 = .ok (.invokevirtual 69, 3) := by decide +kernel
theorem tX6_readClause_48 {d : Nat} {l0 l1 l2 l3 l4 : Option Value} {y0 y1 : Value} {a : Nat} {m : jmM} {Q : Option Value → jmM → Prop} : AW d 92 48 [l0, l1, l2, l3, l4] [y0, y1, .ref a] m Q ↔ (mS m a).1 = 6 ∧ CC d 91 [.ref a, y1, y0] m (jK d 92 51 [l0, l1, l2, l3, l4] [] Q) := A_callV hB_X6_readClause dX6_readClause_48 hO_X6_readClause fS_6_69 ⟨Nat.le_of_ble_eq_true rfl, Nat.le_of_ble_eq_true rfl⟩ rfl rfl rfl
theorem dX6_readClause_51 : decode cX6_readClause 51 = .ok (.return_, 1) := by decide +kernel
theorem tX6_readClause_51 {d : Nat} {l0 l1 l2 l3 l4 : Option Value} {m : jmM} {Q : Option Value → jmM → Prop} : AW d 92 51 [l0, l1, l2, l3, l4] [] m Q ↔ Q none m := A_return hB_X6_readClause dX6_readClause_51 hR_X6_readClause
theorem dX6_readClause_52 : decode cX6_readClause 52 = .ok (.aload_n 0, 1) := by decide +kernel
theorem tX6_readClause_52 {d : Nat} {l1 l2 l3 l4 : Option Value} {x : Nat} {m : jmM} {Q : Option Value → jmM → Prop} : AW d 92 52 [some (.ref x), l1, l2, l3, l4] [] m Q ↔ AW d 92 53 [some (.ref x), l1, l2, l3, l4] [.ref x] m Q := A_aload_n hB_X6_readClause dX6_readClause_52 rfl
theorem dX6_readClause_53 : decode cX6_readClause 53 = .ok (.aload_n 0, 1) := by decide +kernel
theorem tX6_readClause_53 {d : Nat} {l1 l2 l3 l4 : Option Value} {v0 : Value} {x : Nat} {m : jmM} {Q : Option Value → jmM → Prop} : AW d 92 53 [some (.ref x), l1, l2, l3, l4] [v0] m Q ↔ AW d 92 54 [some (.ref x), l1, l2, l3, l4] [.ref x, v0] m Q := A_aload_n hB_X6_readClause dX6_readClause_53 rfl
theorem dX6_readClause_54 : decode cX6_readClause 54 = .ok (.invokevirtual 77, 3) := by decide +kernel
theorem tX6_readClause_54 {d : Nat} {l0 l1 l2 l3 l4 : Option Value} {v1 : Value} {a : Nat} {m : jmM} {Q : Option Value → jmM → Prop} : AW d 92 54 [l0, l1, l2, l3, l4] [.ref a, v1] m Q ↔ (mS m a).1 = 6 ∧ CC d 109 [.ref a] m (jK d 92 57 [l0, l1, l2, l3, l4] [v1] Q) := A_callV hB_X6_readClause dX6_readClause_54 hO_X6_readClause fS_6_77 ⟨Nat.le_of_ble_eq_true rfl, Nat.le_of_ble_eq_true rfl⟩ rfl rfl rfl
theorem dX6_readClause_57 : decode cX6_readClause 57 = .ok (.putfield 29, 3) := by decide +kernel
theorem tX6_readClause_57 {d : Nat} {l0 l1 l2 l3 l4 : Option Value} {x : Int32} {a : Nat} {m : jmM} {Q : Option Value → jmM → Prop} : AW d 92 57 [l0, l1, l2, l3, l4] [.int x, .ref a] m Q ↔ (mS m a).1 = 6 ∧ AW d 92 60 [l0, l1, l2, l3, l4] [] (cI m a (jup (mI m a) 3 x)) Q := A_putI hB_X6_readClause dX6_readClause_57 hO_X6_readClause fF_6_29 rfl (fun h => Bool.noConfusion h)
theorem dX6_readClause_60 : decode cX6_readClause 60 = .ok (.iload_n 2, 1) := by decide +kernel
theorem tX6_readClause_60 {d : Nat} {l0 l1 l3 l4 : Option Value} {x : Int32} {m : jmM} {Q : Option Value → jmM → Prop} : AW d 92 60 [l0, l1, some (.int x), l3, l4] [] m Q ↔ AW d 92 61 [l0, l1, some (.int x), l3, l4] [.int x] m Q := A_iload_n hB_X6_readClause dX6_readClause_60 rfl
theorem dX6_readClause_61 : decode cX6_readClause 61 = .ok (.iconst 3, 1) := by decide +kernel
theorem tX6_readClause_61 {d : Nat} {l0 l1 l2 l3 l4 : Option Value} {v0 : Value} {m : jmM} {Q : Option Value → jmM → Prop} : AW d 92 61 [l0, l1, l2, l3, l4] [v0] m Q ↔ AW d 92 62 [l0, l1, l2, l3, l4] [.int 3, v0] m Q := A_iconst hB_X6_readClause dX6_readClause_61 (by decide)
theorem dX6_readClause_62 : decode cX6_readClause 62 = .ok (.if_icmp .eq 13, 3) := by decide +kernel
theorem tX6_readClause_62 {d : Nat} {l0 l1 l2 l3 l4 : Option Value} {x y : Int32} {m : jmM} {Q : Option Value → jmM → Prop} : AW d 92 62 [l0, l1, l2, l3, l4] [.int y, .int x] m Q ↔ if x = y then AW d 92 75 [l0, l1, l2, l3, l4] [] m Q else AW d 92 65 [l0, l1, l2, l3, l4] [] m Q := A_icmp_eq hB_X6_readClause dX6_readClause_62 (by decide)
theorem dX6_readClause_65 : decode cX6_readClause 65 = .ok (.iload_n 2, 1) := by decide +kernel
theorem tX6_readClause_65 {d : Nat} {l0 l1 l3 l4 : Option Value} {x : Int32} {m : jmM} {Q : Option Value → jmM → Prop} : AW d 92 65 [l0, l1, some (.int x), l3, l4] [] m Q ↔ AW d 92 66 [l0, l1, some (.int x), l3, l4] [.int x] m Q := A_iload_n hB_X6_readClause dX6_readClause_65 rfl
theorem dX6_readClause_66 : decode cX6_readClause 66 = .ok (.iconst 4, 1) := by decide +kernel
theorem tX6_readClause_66 {d : Nat} {l0 l1 l2 l3 l4 : Option Value} {v0 : Value} {m : jmM} {Q : Option Value → jmM → Prop} : AW d 92 66 [l0, l1, l2, l3, l4] [v0] m Q ↔ AW d 92 67 [l0, l1, l2, l3, l4] [.int 4, v0] m Q := A_iconst hB_X6_readClause dX6_readClause_66 (by decide)
theorem dX6_readClause_67 : decode cX6_readClause 67 = .ok (.if_icmp .eq 8, 3) := by decide +kernel
theorem tX6_readClause_67 {d : Nat} {l0 l1 l2 l3 l4 : Option Value} {x y : Int32} {m : jmM} {Q : Option Value → jmM → Prop} : AW d 92 67 [l0, l1, l2, l3, l4] [.int y, .int x] m Q ↔ if x = y then AW d 92 75 [l0, l1, l2, l3, l4] [] m Q else AW d 92 70 [l0, l1, l2, l3, l4] [] m Q := A_icmp_eq hB_X6_readClause dX6_readClause_67 (by decide)
theorem dX6_readClause_70 : decode cX6_readClause 70 = .ok (.iload_n 2, 1) := by decide +kernel
theorem tX6_readClause_70 {d : Nat} {l0 l1 l3 l4 : Option Value} {x : Int32} {m : jmM} {Q : Option Value → jmM → Prop} : AW d 92 70 [l0, l1, some (.int x), l3, l4] [] m Q ↔ AW d 92 71 [l0, l1, some (.int x), l3, l4] [.int x] m Q := A_iload_n hB_X6_readClause dX6_readClause_70 rfl
theorem dX6_readClause_71 : decode cX6_readClause 71 = .ok (.iconst 5, 1) := by decide +kernel
theorem tX6_readClause_71 {d : Nat} {l0 l1 l2 l3 l4 : Option Value} {v0 : Value} {m : jmM} {Q : Option Value → jmM → Prop} : AW d 92 71 [l0, l1, l2, l3, l4] [v0] m Q ↔ AW d 92 72 [l0, l1, l2, l3, l4] [.int 5, v0] m Q := A_iconst hB_X6_readClause dX6_readClause_71 (by decide)
theorem dX6_readClause_72 : decode cX6_readClause 72 = .ok (.if_icmp .ne 44, 3) := by decide +kernel
theorem tX6_readClause_72 {d : Nat} {l0 l1 l2 l3 l4 : Option Value} {x y : Int32} {m : jmM} {Q : Option Value → jmM → Prop} : AW d 92 72 [l0, l1, l2, l3, l4] [.int y, .int x] m Q ↔ if x = y then AW d 92 75 [l0, l1, l2, l3, l4] [] m Q else AW d 92 116 [l0, l1, l2, l3, l4] [] m Q := A_icmp_ne hB_X6_readClause dX6_readClause_72 (by decide)
theorem dX6_readClause_75 : decode cX6_readClause 75 = .ok (.aload_n 0, 1) := by decide +kernel
theorem tX6_readClause_75 {d : Nat} {l1 l2 l3 l4 : Option Value} {x : Nat} {m : jmM} {Q : Option Value → jmM → Prop} : AW d 92 75 [some (.ref x), l1, l2, l3, l4] [] m Q ↔ AW d 92 76 [some (.ref x), l1, l2, l3, l4] [.ref x] m Q := A_aload_n hB_X6_readClause dX6_readClause_75 rfl
theorem dX6_readClause_76 : decode cX6_readClause 76 = .ok (.invokevirtual 52, 3) := by decide +kernel
theorem tX6_readClause_76 {d : Nat} {l0 l1 l2 l3 l4 : Option Value} {a : Nat} {m : jmM} {Q : Option Value → jmM → Prop} : AW d 92 76 [l0, l1, l2, l3, l4] [.ref a] m Q ↔ (mS m a).1 = 6 ∧ CC d 105 [.ref a] m (jK d 92 79 [l0, l1, l2, l3, l4] [] Q) := A_callV hB_X6_readClause dX6_readClause_76 hO_X6_readClause fS_6_52 ⟨Nat.le_of_ble_eq_true rfl, Nat.le_of_ble_eq_true rfl⟩ rfl rfl rfl
theorem dX6_readClause_79 : decode cX6_readClause 79 = .ok (.pop, 1) := by decide +kernel
theorem tX6_readClause_79 {d : Nat} {l0 l1 l2 l3 l4 : Option Value} {x : Int32} {m : jmM} {Q : Option Value → jmM → Prop} : AW d 92 79 [l0, l1, l2, l3, l4] [.int x] m Q ↔ AW d 92 80 [l0, l1, l2, l3, l4] [] m Q := A_pop_i hB_X6_readClause dX6_readClause_79
theorem dX6_readClause_80 : decode cX6_readClause 80 = .ok (.aload_n 0, 1) := by decide +kernel
theorem tX6_readClause_80 {d : Nat} {l1 l2 l3 l4 : Option Value} {x : Nat} {m : jmM} {Q : Option Value → jmM → Prop} : AW d 92 80 [some (.ref x), l1, l2, l3, l4] [] m Q ↔ AW d 92 81 [some (.ref x), l1, l2, l3, l4] [.ref x] m Q := A_aload_n hB_X6_readClause dX6_readClause_80 rfl
theorem dX6_readClause_81 : decode cX6_readClause 81 = .ok (.getfield 21, 3) := by decide +kernel
theorem tX6_readClause_81 {d : Nat} {l0 l1 l2 l3 l4 : Option Value} {a : Nat} {m : jmM} {Q : Option Value → jmM → Prop} : AW d 92 81 [l0, l1, l2, l3, l4] [.ref a] m Q ↔ (mS m a).1 = 6 ∧ AW d 92 84 [l0, l1, l2, l3, l4] [va_rf (mR m a 1)] m Q := A_getfield (f := fun m a => va_rf (mR m a 1)) hB_X6_readClause dX6_readClause_81 hO_X6_readClause fF_6_21 rfl
theorem dX6_readClause_84 : decode cX6_readClause 84 = .ok (.iload_n 2, 1) := by decide +kernel
theorem tX6_readClause_84 {d : Nat} {l0 l1 l3 l4 : Option Value} {v0 : Value} {x : Int32} {m : jmM} {Q : Option Value → jmM → Prop} : AW d 92 84 [l0, l1, some (.int x), l3, l4] [v0] m Q ↔ AW d 92 85 [l0, l1, some (.int x), l3, l4] [.int x, v0] m Q := A_iload_n hB_X6_readClause dX6_readClause_84 rfl
theorem dX6_readClause_85 : decode cX6_readClause 85 = .ok (.aload_n 0, 1) := by decide +kernel
theorem tX6_readClause_85 {d : Nat} {l1 l2 l3 l4 : Option Value} {v0 v1 : Value} {x : Nat} {m : jmM} {Q : Option Value → jmM → Prop} : AW d 92 85 [some (.ref x), l1, l2, l3, l4] [v0, v1] m Q ↔ AW d 92 86 [some (.ref x), l1, l2, l3, l4] [.ref x, v0, v1] m Q := A_aload_n hB_X6_readClause dX6_readClause_85 rfl
theorem dX6_readClause_86 : decode cX6_readClause 86 = .ok (.iload_n 2, 1) := by decide +kernel
theorem tX6_readClause_86 {d : Nat} {l0 l1 l3 l4 : Option Value} {v0 v1 v2 : Value} {x : Int32} {m : jmM} {Q : Option Value → jmM → Prop} : AW d 92 86 [l0, l1, some (.int x), l3, l4] [v0, v1, v2] m Q ↔ AW d 92 87 [l0, l1, some (.int x), l3, l4] [.int x, v0, v1, v2] m Q := A_iload_n hB_X6_readClause dX6_readClause_86 rfl
theorem dX6_readClause_87 : decode cX6_readClause 87 = .ok (.iconst 3, 1) := by decide +kernel
theorem tX6_readClause_87 {d : Nat} {l0 l1 l2 l3 l4 : Option Value} {v0 v1 v2 v3 : Value} {m : jmM} {Q : Option Value → jmM → Prop} : AW d 92 87 [l0, l1, l2, l3, l4] [v0, v1, v2, v3] m Q ↔ AW d 92 88 [l0, l1, l2, l3, l4] [.int 3, v0, v1, v2, v3] m Q := A_iconst hB_X6_readClause dX6_readClause_87 (by decide)
theorem dX6_readClause_88 : decode cX6_readClause 88 = .ok (.if_icmp .ne 8, 3) := by decide +kernel
theorem tX6_readClause_88 {d : Nat} {l0 l1 l2 l3 l4 : Option Value} {v2 v3 v4 : Value} {x y : Int32} {m : jmM} {Q : Option Value → jmM → Prop} : AW d 92 88 [l0, l1, l2, l3, l4] [.int y, .int x, v2, v3, v4] m Q ↔ if x = y then AW d 92 91 [l0, l1, l2, l3, l4] [v2, v3, v4] m Q else AW d 92 96 [l0, l1, l2, l3, l4] [v2, v3, v4] m Q := A_icmp_ne hB_X6_readClause dX6_readClause_88 (by decide)
theorem dX6_readClause_91 : decode cX6_readClause 91 = .ok (.bipush 99, 2) := by decide +kernel
theorem tX6_readClause_91 {d : Nat} {l0 l1 l2 l3 l4 : Option Value} {v0 v1 v2 : Value} {m : jmM} {Q : Option Value → jmM → Prop} : AW d 92 91 [l0, l1, l2, l3, l4] [v0, v1, v2] m Q ↔ AW d 92 93 [l0, l1, l2, l3, l4] [.int 99, v0, v1, v2] m Q := A_bipush hB_X6_readClause dX6_readClause_91 rfl
theorem dX6_readClause_93 : decode cX6_readClause 93 = .ok (.goto 16, 3) := by decide +kernel
theorem tX6_readClause_93 {d : Nat} {l0 l1 l2 l3 l4 : Option Value} {v0 v1 v2 v3 : Value} {m : jmM} {Q : Option Value → jmM → Prop} : AW d 92 93 [l0, l1, l2, l3, l4] [v0, v1, v2, v3] m Q ↔ AW d 92 109 [l0, l1, l2, l3, l4] [v0, v1, v2, v3] m Q := A_goto hB_X6_readClause dX6_readClause_93 (by decide)
theorem dX6_readClause_96 : decode cX6_readClause 96 = .ok (.iload_n 2, 1) := by decide +kernel
theorem tX6_readClause_96 {d : Nat} {l0 l1 l3 l4 : Option Value} {v0 v1 v2 : Value} {x : Int32} {m : jmM} {Q : Option Value → jmM → Prop} : AW d 92 96 [l0, l1, some (.int x), l3, l4] [v0, v1, v2] m Q ↔ AW d 92 97 [l0, l1, some (.int x), l3, l4] [.int x, v0, v1, v2] m Q := A_iload_n hB_X6_readClause dX6_readClause_96 rfl
theorem dX6_readClause_97 : decode cX6_readClause 97 = .ok (.iconst 4, 1) := by decide +kernel
theorem tX6_readClause_97 {d : Nat} {l0 l1 l2 l3 l4 : Option Value} {v0 v1 v2 v3 : Value} {m : jmM} {Q : Option Value → jmM → Prop} : AW d 92 97 [l0, l1, l2, l3, l4] [v0, v1, v2, v3] m Q ↔ AW d 92 98 [l0, l1, l2, l3, l4] [.int 4, v0, v1, v2, v3] m Q := A_iconst hB_X6_readClause dX6_readClause_97 (by decide)
theorem dX6_readClause_98 : decode cX6_readClause 98 = .ok (.if_icmp .ne 8, 3) := by decide +kernel
theorem tX6_readClause_98 {d : Nat} {l0 l1 l2 l3 l4 : Option Value} {v2 v3 v4 : Value} {x y : Int32} {m : jmM} {Q : Option Value → jmM → Prop} : AW d 92 98 [l0, l1, l2, l3, l4] [.int y, .int x, v2, v3, v4] m Q ↔ if x = y then AW d 92 101 [l0, l1, l2, l3, l4] [v2, v3, v4] m Q else AW d 92 106 [l0, l1, l2, l3, l4] [v2, v3, v4] m Q := A_icmp_ne hB_X6_readClause dX6_readClause_98 (by decide)
theorem dX6_readClause_101 : decode cX6_readClause 101 = .ok (.bipush 9, 2) := by decide +kernel
theorem tX6_readClause_101 {d : Nat} {l0 l1 l2 l3 l4 : Option Value} {v0 v1 v2 : Value} {m : jmM} {Q : Option Value → jmM → Prop} : AW d 92 101 [l0, l1, l2, l3, l4] [v0, v1, v2] m Q ↔ AW d 92 103 [l0, l1, l2, l3, l4] [.int 9, v0, v1, v2] m Q := A_bipush hB_X6_readClause dX6_readClause_101 rfl
theorem dX6_readClause_103 : decode cX6_readClause 103 = .ok (.goto 6, 3) := by decide +kernel
theorem tX6_readClause_103 {d : Nat} {l0 l1 l2 l3 l4 : Option Value} {v0 v1 v2 v3 : Value} {m : jmM} {Q : Option Value → jmM → Prop} : AW d 92 103 [l0, l1, l2, l3, l4] [v0, v1, v2, v3] m Q ↔ AW d 92 109 [l0, l1, l2, l3, l4] [v0, v1, v2, v3] m Q := A_goto hB_X6_readClause dX6_readClause_103 (by decide)
theorem dX6_readClause_106 : decode cX6_readClause 106 = .ok (.sipush 9999, 3) := by decide +kernel
theorem tX6_readClause_106 {d : Nat} {l0 l1 l2 l3 l4 : Option Value} {v0 v1 v2 : Value} {m : jmM} {Q : Option Value → jmM → Prop} : AW d 92 106 [l0, l1, l2, l3, l4] [v0, v1, v2] m Q ↔ AW d 92 109 [l0, l1, l2, l3, l4] [.int 9999, v0, v1, v2] m Q := A_sipush hB_X6_readClause dX6_readClause_106 rfl
theorem dX6_readClause_109 : decode cX6_readClause 109 = .ok (.invokevirtual 80, 3) := by decide +kernel
theorem tX6_readClause_109 {d : Nat} {l0 l1 l2 l3 l4 : Option Value} {v2 v3 : Value} {y0 : Value} {a : Nat} {m : jmM} {Q : Option Value → jmM → Prop} : AW d 92 109 [l0, l1, l2, l3, l4] [y0, .ref a, v2, v3] m Q ↔ (mS m a).1 = 6 ∧ CC d 103 [.ref a, y0] m (jK d 92 112 [l0, l1, l2, l3, l4] [v2, v3] Q) := A_callV hB_X6_readClause dX6_readClause_109 hO_X6_readClause fS_6_80 ⟨Nat.le_of_ble_eq_true rfl, Nat.le_of_ble_eq_true rfl⟩ rfl rfl rfl
theorem dX6_readClause_112 : decode cX6_readClause 112 = .ok (.invokevirtual 84, 3) := by decide +kernel
theorem tX6_readClause_112 {d : Nat} {l0 l1 l2 l3 l4 : Option Value} {y0 y1 : Value} {a : Nat} {m : jmM} {Q : Option Value → jmM → Prop} : AW d 92 112 [l0, l1, l2, l3, l4] [y0, y1, .ref a] m Q ↔ (mS m a).1 = 3 ∧ CC d 29 [.ref a, y1, y0] m (jK d 92 115 [l0, l1, l2, l3, l4] [] Q) := A_callV hB_X6_readClause dX6_readClause_112 hO_X6_readClause fS_6_84 ⟨Nat.le_of_ble_eq_true rfl, Nat.le_of_ble_eq_true rfl⟩ rfl rfl rfl
theorem dX6_readClause_115 : decode cX6_readClause 115 = .ok (.return_, 1) := by decide +kernel
theorem tX6_readClause_115 {d : Nat} {l0 l1 l2 l3 l4 : Option Value} {m : jmM} {Q : Option Value → jmM → Prop} : AW d 92 115 [l0, l1, l2, l3, l4] [] m Q ↔ Q none m := A_return hB_X6_readClause dX6_readClause_115 hR_X6_readClause
theorem dX6_readClause_116 : decode cX6_readClause 116 = .ok (.aload_n 0, 1) := by decide +kernel
theorem tX6_readClause_116 {d : Nat} {l1 l2 l3 l4 : Option Value} {x : Nat} {m : jmM} {Q : Option Value → jmM → Prop} : AW d 92 116 [some (.ref x), l1, l2, l3, l4] [] m Q ↔ AW d 92 117 [some (.ref x), l1, l2, l3, l4] [.ref x] m Q := A_aload_n hB_X6_readClause dX6_readClause_116 rfl
theorem dX6_readClause_117 : decode cX6_readClause 117 = .ok (.getfield 21, 3) := by decide +kernel
theorem tX6_readClause_117 {d : Nat} {l0 l1 l2 l3 l4 : Option Value} {a : Nat} {m : jmM} {Q : Option Value → jmM → Prop} : AW d 92 117 [l0, l1, l2, l3, l4] [.ref a] m Q ↔ (mS m a).1 = 6 ∧ AW d 92 120 [l0, l1, l2, l3, l4] [va_rf (mR m a 1)] m Q := A_getfield (f := fun m a => va_rf (mR m a 1)) hB_X6_readClause dX6_readClause_117 hO_X6_readClause fF_6_21 rfl
theorem dX6_readClause_120 : decode cX6_readClause 120 = .ok (.invokevirtual 87, 3) := by decide +kernel
theorem tX6_readClause_120 {d : Nat} {l0 l1 l2 l3 l4 : Option Value} {a : Nat} {m : jmM} {Q : Option Value → jmM → Prop} : AW d 92 120 [l0, l1, l2, l3, l4] [.ref a] m Q ↔ (mS m a).1 = 3 ∧ CC d 31 [.ref a] m (jK d 92 123 [l0, l1, l2, l3, l4] [] Q) := A_callV hB_X6_readClause dX6_readClause_120 hO_X6_readClause fS_6_87 ⟨Nat.le_of_ble_eq_true rfl, Nat.le_of_ble_eq_true rfl⟩ rfl rfl rfl
theorem dX6_readClause_123 : decode cX6_readClause 123 = .ok (.istore_n 3, 1) := by decide +kernel
theorem tX6_readClause_123 {d : Nat} {l0 l1 l2 l3 l4 : Option Value} {x : Int32} {m : jmM} {Q : Option Value → jmM → Prop} : AW d 92 123 [l0, l1, l2, l3, l4] [.int x] m Q ↔ AW d 92 124 [l0, l1, jc1 l2, some (.int x), l4] [] m Q := A_istore_n hB_X6_readClause dX6_readClause_123 (Nat.le_of_ble_eq_true rfl) rfl
theorem dX6_readClause_124 : decode cX6_readClause 124 = .ok (.aload_n 0, 1) := by decide +kernel
theorem tX6_readClause_124 {d : Nat} {l1 l2 l3 l4 : Option Value} {x : Nat} {m : jmM} {Q : Option Value → jmM → Prop} : AW d 92 124 [some (.ref x), l1, l2, l3, l4] [] m Q ↔ AW d 92 125 [some (.ref x), l1, l2, l3, l4] [.ref x] m Q := A_aload_n hB_X6_readClause dX6_readClause_124 rfl
theorem dX6_readClause_125 : decode cX6_readClause 125 = .ok (.iconst 0, 1) := by decide +kernel
theorem tX6_readClause_125 {d : Nat} {l0 l1 l2 l3 l4 : Option Value} {v0 : Value} {m : jmM} {Q : Option Value → jmM → Prop} : AW d 92 125 [l0, l1, l2, l3, l4] [v0] m Q ↔ AW d 92 126 [l0, l1, l2, l3, l4] [.int 0, v0] m Q := A_iconst hB_X6_readClause dX6_readClause_125 (by decide)
theorem dX6_readClause_126 : decode cX6_readClause 126 = .ok (.invokevirtual 90, 3) := by decide +kernel
theorem tX6_readClause_126 {d : Nat} {l0 l1 l2 l3 l4 : Option Value} {y0 : Value} {a : Nat} {m : jmM} {Q : Option Value → jmM → Prop} : AW d 92 126 [l0, l1, l2, l3, l4] [y0, .ref a] m Q ↔ (mS m a).1 = 6 ∧ CC d 99 [.ref a, y0] m (jK d 92 129 [l0, l1, l2, l3, l4] [] Q) := A_callV hB_X6_readClause dX6_readClause_126 hO_X6_readClause fS_6_90 ⟨Nat.le_of_ble_eq_true rfl, Nat.le_of_ble_eq_true rfl⟩ rfl rfl rfl
theorem dX6_readClause_129 : decode cX6_readClause 129 = .ok (.aload_n 0, 1) := by decide +kernel
theorem tX6_readClause_129 {d : Nat} {l1 l2 l3 l4 : Option Value} {x : Nat} {m : jmM} {Q : Option Value → jmM → Prop} : AW d 92 129 [some (.ref x), l1, l2, l3, l4] [] m Q ↔ AW d 92 130 [some (.ref x), l1, l2, l3, l4] [.ref x] m Q := A_aload_n hB_X6_readClause dX6_readClause_129 rfl
theorem dX6_readClause_130 : decode cX6_readClause 130 = .ok (.getfield 21, 3) := by decide +kernel
theorem tX6_readClause_130 {d : Nat} {l0 l1 l2 l3 l4 : Option Value} {a : Nat} {m : jmM} {Q : Option Value → jmM → Prop} : AW d 92 130 [l0, l1, l2, l3, l4] [.ref a] m Q ↔ (mS m a).1 = 6 ∧ AW d 92 133 [l0, l1, l2, l3, l4] [va_rf (mR m a 1)] m Q := A_getfield (f := fun m a => va_rf (mR m a 1)) hB_X6_readClause dX6_readClause_130 hO_X6_readClause fF_6_21 rfl
theorem dX6_readClause_133 : decode cX6_readClause 133 = .ok (.invokevirtual 87, 3) := by decide +kernel
theorem tX6_readClause_133 {d : Nat} {l0 l1 l2 l3 l4 : Option Value} {a : Nat} {m : jmM} {Q : Option Value → jmM → Prop} : AW d 92 133 [l0, l1, l2, l3, l4] [.ref a] m Q ↔ (mS m a).1 = 3 ∧ CC d 31 [.ref a] m (jK d 92 136 [l0, l1, l2, l3, l4] [] Q) := A_callV hB_X6_readClause dX6_readClause_133 hO_X6_readClause fS_6_87 ⟨Nat.le_of_ble_eq_true rfl, Nat.le_of_ble_eq_true rfl⟩ rfl rfl rfl
theorem dX6_readClause_136 : decode cX6_readClause 136 = .ok (.istore 4, 2) := by decide +kernel
theorem tX6_readClause_136 {d : Nat} {l0 l1 l2 l3 l4 : Option Value} {x : Int32} {m : jmM} {Q : Option Value → jmM → Prop} : AW d 92 136 [l0, l1, l2, l3, l4] [.int x] m Q ↔ AW d 92 138 [l0, l1, l2, jc1 l3, some (.int x)] [] m Q := A_istore hB_X6_readClause dX6_readClause_136 (Nat.le_of_ble_eq_true rfl) rfl
theorem dX6_readClause_138 : decode cX6_readClause 138 = .ok (.aload_n 0, 1) := by decide +kernel
theorem tX6_readClause_138 {d : Nat} {l1 l2 l3 l4 : Option Value} {x : Nat} {m : jmM} {Q : Option Value → jmM → Prop} : AW d 92 138 [some (.ref x), l1, l2, l3, l4] [] m Q ↔ AW d 92 139 [some (.ref x), l1, l2, l3, l4] [.ref x] m Q := A_aload_n hB_X6_readClause dX6_readClause_138 rfl
theorem dX6_readClause_139 : decode cX6_readClause 139 = .ok (.ldc 93, 2) := by decide +kernel
theorem tX6_readClause_139 {d : Nat} {l0 l1 l2 l3 l4 : Option Value} {v0 : Value} {m : jmM} {Q : Option Value → jmM → Prop} : AW d 92 139 [l0, l1, l2, l3, l4] [v0] m Q ↔ AW d 92 141 [l0, l1, l2, l3, l4] [.ref (jScr + 1 + 12), v0] m Q := A_ldcS hB_X6_readClause dX6_readClause_139 hO_X6_readClause fLn_6_93 fLs_6_93
theorem dX6_readClause_141 : decode cX6_readClause 141 = .ok (.invokevirtual 95, 3) := by decide +kernel
theorem tX6_readClause_141 {d : Nat} {l0 l1 l2 l3 l4 : Option Value} {y0 : Value} {a : Nat} {m : jmM} {Q : Option Value → jmM → Prop} : AW d 92 141 [l0, l1, l2, l3, l4] [y0, .ref a] m Q ↔ (mS m a).1 = 6 ∧ CC d 107 [.ref a, y0] m (jK d 92 144 [l0, l1, l2, l3, l4] [] Q) := A_callV hB_X6_readClause dX6_readClause_141 hO_X6_readClause fS_6_95 ⟨Nat.le_of_ble_eq_true rfl, Nat.le_of_ble_eq_true rfl⟩ rfl rfl rfl
theorem dX6_readClause_144 : decode cX6_readClause 144 = .ok (.ifCond .eq 8, 3) := by decide +kernel
theorem tX6_readClause_144 {d : Nat} {l0 l1 l2 l3 l4 : Option Value} {x : Int32} {m : jmM} {Q : Option Value → jmM → Prop} : AW d 92 144 [l0, l1, l2, l3, l4] [.int x] m Q ↔ if x = 0 then AW d 92 152 [l0, l1, l2, l3, l4] [] m Q else AW d 92 147 [l0, l1, l2, l3, l4] [] m Q := A_if_eq hB_X6_readClause dX6_readClause_144 (by decide)
theorem dX6_readClause_147 : decode cX6_readClause 147 = .ok (.aload_n 0, 1) := by decide +kernel
theorem tX6_readClause_147 {d : Nat} {l1 l2 l3 l4 : Option Value} {x : Nat} {m : jmM} {Q : Option Value → jmM → Prop} : AW d 92 147 [some (.ref x), l1, l2, l3, l4] [] m Q ↔ AW d 92 148 [some (.ref x), l1, l2, l3, l4] [.ref x] m Q := A_aload_n hB_X6_readClause dX6_readClause_147 rfl
theorem dX6_readClause_148 : decode cX6_readClause 148 = .ok (.iconst 0, 1) := by decide +kernel
theorem tX6_readClause_148 {d : Nat} {l0 l1 l2 l3 l4 : Option Value} {v0 : Value} {m : jmM} {Q : Option Value → jmM → Prop} : AW d 92 148 [l0, l1, l2, l3, l4] [v0] m Q ↔ AW d 92 149 [l0, l1, l2, l3, l4] [.int 0, v0] m Q := A_iconst hB_X6_readClause dX6_readClause_148 (by decide)
theorem dX6_readClause_149 : decode cX6_readClause 149 = .ok (.invokevirtual 99, 3) := by decide +kernel
theorem tX6_readClause_149 {d : Nat} {l0 l1 l2 l3 l4 : Option Value} {y0 : Value} {a : Nat} {m : jmM} {Q : Option Value → jmM → Prop} : AW d 92 149 [l0, l1, l2, l3, l4] [y0, .ref a] m Q ↔ (mS m a).1 = 6 ∧ CC d 94 [.ref a, y0] m (jK d 92 152 [l0, l1, l2, l3, l4] [] Q) := A_callV hB_X6_readClause dX6_readClause_149 hO_X6_readClause fS_6_99 ⟨Nat.le_of_ble_eq_true rfl, Nat.le_of_ble_eq_true rfl⟩ rfl rfl rfl
theorem dX6_readClause_152 : decode cX6_readClause 152 = .ok (.aload_n 0, 1) := by decide +kernel
theorem tX6_readClause_152 {d : Nat} {l1 l2 l3 l4 : Option Value} {x : Nat} {m : jmM} {Q : Option Value → jmM → Prop} : AW d 92 152 [some (.ref x), l1, l2, l3, l4] [] m Q ↔ AW d 92 153 [some (.ref x), l1, l2, l3, l4] [.ref x] m Q := A_aload_n hB_X6_readClause dX6_readClause_152 rfl
theorem dX6_readClause_153 : decode cX6_readClause 153 = .ok (.getfield 21, 3) := by decide +kernel
theorem tX6_readClause_153 {d : Nat} {l0 l1 l2 l3 l4 : Option Value} {a : Nat} {m : jmM} {Q : Option Value → jmM → Prop} : AW d 92 153 [l0, l1, l2, l3, l4] [.ref a] m Q ↔ (mS m a).1 = 6 ∧ AW d 92 156 [l0, l1, l2, l3, l4] [va_rf (mR m a 1)] m Q := A_getfield (f := fun m a => va_rf (mR m a 1)) hB_X6_readClause dX6_readClause_153 hO_X6_readClause fF_6_21 rfl
theorem dX6_readClause_156 : decode cX6_readClause 156 = .ok (.iload_n 2, 1) := by decide +kernel
theorem tX6_readClause_156 {d : Nat} {l0 l1 l3 l4 : Option Value} {v0 : Value} {x : Int32} {m : jmM} {Q : Option Value → jmM → Prop} : AW d 92 156 [l0, l1, some (.int x), l3, l4] [v0] m Q ↔ AW d 92 157 [l0, l1, some (.int x), l3, l4] [.int x, v0] m Q := A_iload_n hB_X6_readClause dX6_readClause_156 rfl
theorem dX6_readClause_157 : decode cX6_readClause 157 = .ok (.iload_n 3, 1) := by decide +kernel
theorem tX6_readClause_157 {d : Nat} {l0 l1 l2 l4 : Option Value} {v0 v1 : Value} {x : Int32} {m : jmM} {Q : Option Value → jmM → Prop} : AW d 92 157 [l0, l1, l2, some (.int x), l4] [v0, v1] m Q ↔ AW d 92 158 [l0, l1, l2, some (.int x), l4] [.int x, v0, v1] m Q := A_iload_n hB_X6_readClause dX6_readClause_157 rfl
theorem dX6_readClause_158 : decode cX6_readClause 158 = .ok (.iload 4, 2) := by decide +kernel
theorem tX6_readClause_158 {d : Nat} {l0 l1 l2 l3 : Option Value} {v0 v1 v2 : Value} {x : Int32} {m : jmM} {Q : Option Value → jmM → Prop} : AW d 92 158 [l0, l1, l2, l3, some (.int x)] [v0, v1, v2] m Q ↔ AW d 92 160 [l0, l1, l2, l3, some (.int x)] [.int x, v0, v1, v2] m Q := A_iload hB_X6_readClause dX6_readClause_158 rfl
theorem dX6_readClause_160 : decode cX6_readClause 160 = .ok (.invokevirtual 102, 3) := by decide +kernel
theorem tX6_readClause_160 {d : Nat} {l0 l1 l2 l3 l4 : Option Value} {y0 y1 y2 : Value} {a : Nat} {m : jmM} {Q : Option Value → jmM → Prop} : AW d 92 160 [l0, l1, l2, l3, l4] [y0, y1, y2, .ref a] m Q ↔ (mS m a).1 = 3 ∧ CC d 28 [.ref a, y2, y1, y0] m (jK d 92 163 [l0, l1, l2, l3, l4] [] Q) := A_callV hB_X6_readClause dX6_readClause_160 hO_X6_readClause fS_6_102 ⟨Nat.le_of_ble_eq_true rfl, Nat.le_of_ble_eq_true rfl⟩ rfl rfl rfl
theorem dX6_readClause_163 : decode cX6_readClause 163 = .ok (.return_, 1) := by decide +kernel
theorem tX6_readClause_163 {d : Nat} {l0 l1 l2 l3 l4 : Option Value} {m : jmM} {Q : Option Value → jmM → Prop} : AW d 92 163 [l0, l1, l2, l3, l4] [] m Q ↔ Q none m := A_return hB_X6_readClause dX6_readClause_163 hR_X6_readClause
theorem hB_X6_clauseKind : jB 93 = cX6_clauseKind := rfl
theorem hO_X6_clauseKind : jO 93 = 6 := rfl
theorem hR_X6_clauseKind : jRt 93 = (some .int) := rfl
theorem nX6_clauseKind (d : Nat) (x0 : Nat) (m : jmM) (Q : Option Value → jmM → Prop) : CC (d + 1) 93 [.ref x0] m Q ↔ AW d 93 0 [some (.ref x0)] [] m Q := CC_body (Nat.le_of_ble_eq_true rfl)
theorem dX6_clauseKind_0 : decode cX6_clauseKind 0 = .ok (.aload_n 0, 1) := by decide +kernel
theorem tX6_clauseKind_0 {d : Nat} {x : Nat} {m : jmM} {Q : Option Value → jmM → Prop} : AW d 93 0 [some (.ref x)] [] m Q ↔ AW d 93 1 [some (.ref x)] [.ref x] m Q := A_aload_n hB_X6_clauseKind dX6_clauseKind_0 rfl
theorem dX6_clauseKind_1 : decode cX6_clauseKind 1 = .ok (.getfield 25, 3) := by decide +kernel
theorem tX6_clauseKind_1 {d : Nat} {l0 : Option Value} {a : Nat} {m : jmM} {Q : Option Value → jmM → Prop} : AW d 93 1 [l0] [.ref a] m Q ↔ (mS m a).1 = 6 ∧ AW d 93 4 [l0] [.int (mI m a 2)] m Q := A_getfield (f := fun m a => .int (mI m a 2)) hB_X6_clauseKind dX6_clauseKind_1 hO_X6_clauseKind fF_6_25 rfl
theorem dX6_clauseKind_4 : decode cX6_clauseKind 4 = .ok (.ifCond .ne 31, 3) := by decide +kernel
theorem tX6_clauseKind_4 {d : Nat} {l0 : Option Value} {x : Int32} {m : jmM} {Q : Option Value → jmM → Prop} : AW d 93 4 [l0] [.int x] m Q ↔ if x = 0 then AW d 93 7 [l0] [] m Q else AW d 93 35 [l0] [] m Q := A_if_ne hB_X6_clauseKind dX6_clauseKind_4 (by decide)
theorem dX6_clauseKind_7 : decode cX6_clauseKind 7 = .ok (.aload_n 0, 1) := by decide +kernel
theorem tX6_clauseKind_7 {d : Nat} {x : Nat} {m : jmM} {Q : Option Value → jmM → Prop} : AW d 93 7 [some (.ref x)] [] m Q ↔ AW d 93 8 [some (.ref x)] [.ref x] m Q := A_aload_n hB_X6_clauseKind dX6_clauseKind_7 rfl
theorem dX6_clauseKind_8 : decode cX6_clauseKind 8 = .ok (.ldc 106, 2) := by decide +kernel
theorem tX6_clauseKind_8 {d : Nat} {l0 : Option Value} {v0 : Value} {m : jmM} {Q : Option Value → jmM → Prop} : AW d 93 8 [l0] [v0] m Q ↔ AW d 93 10 [l0] [.ref (jScr + 1 + 0), v0] m Q := A_ldcS hB_X6_clauseKind dX6_clauseKind_8 hO_X6_clauseKind fLn_6_106 fLs_6_106
theorem dX6_clauseKind_10 : decode cX6_clauseKind 10 = .ok (.invokevirtual 108, 3) := by decide +kernel
theorem tX6_clauseKind_10 {d : Nat} {l0 : Option Value} {y0 : Value} {a : Nat} {m : jmM} {Q : Option Value → jmM → Prop} : AW d 93 10 [l0] [y0, .ref a] m Q ↔ (mS m a).1 = 6 ∧ CC d 108 [.ref a, y0] m (jK d 93 13 [l0] [] Q) := A_callV hB_X6_clauseKind dX6_clauseKind_10 hO_X6_clauseKind fS_6_108 ⟨Nat.le_of_ble_eq_true rfl, Nat.le_of_ble_eq_true rfl⟩ rfl rfl rfl
theorem dX6_clauseKind_13 : decode cX6_clauseKind 13 = .ok (.ifCond .eq 7, 3) := by decide +kernel
theorem tX6_clauseKind_13 {d : Nat} {l0 : Option Value} {x : Int32} {m : jmM} {Q : Option Value → jmM → Prop} : AW d 93 13 [l0] [.int x] m Q ↔ if x = 0 then AW d 93 20 [l0] [] m Q else AW d 93 16 [l0] [] m Q := A_if_eq hB_X6_clauseKind dX6_clauseKind_13 (by decide)
theorem dX6_clauseKind_16 : decode cX6_clauseKind 16 = .ok (.iconst 1, 1) := by decide +kernel
theorem tX6_clauseKind_16 {d : Nat} {l0 : Option Value} {m : jmM} {Q : Option Value → jmM → Prop} : AW d 93 16 [l0] [] m Q ↔ AW d 93 17 [l0] [.int 1] m Q := A_iconst hB_X6_clauseKind dX6_clauseKind_16 (by decide)
theorem dX6_clauseKind_17 : decode cX6_clauseKind 17 = .ok (.goto 17, 3) := by decide +kernel
theorem tX6_clauseKind_17 {d : Nat} {l0 : Option Value} {v0 : Value} {m : jmM} {Q : Option Value → jmM → Prop} : AW d 93 17 [l0] [v0] m Q ↔ AW d 93 34 [l0] [v0] m Q := A_goto hB_X6_clauseKind dX6_clauseKind_17 (by decide)
theorem dX6_clauseKind_20 : decode cX6_clauseKind 20 = .ok (.aload_n 0, 1) := by decide +kernel
theorem tX6_clauseKind_20 {d : Nat} {x : Nat} {m : jmM} {Q : Option Value → jmM → Prop} : AW d 93 20 [some (.ref x)] [] m Q ↔ AW d 93 21 [some (.ref x)] [.ref x] m Q := A_aload_n hB_X6_clauseKind dX6_clauseKind_20 rfl
theorem dX6_clauseKind_21 : decode cX6_clauseKind 21 = .ok (.ldc 111, 2) := by decide +kernel
theorem tX6_clauseKind_21 {d : Nat} {l0 : Option Value} {v0 : Value} {m : jmM} {Q : Option Value → jmM → Prop} : AW d 93 21 [l0] [v0] m Q ↔ AW d 93 23 [l0] [.ref (jScr + 1 + 1), v0] m Q := A_ldcS hB_X6_clauseKind dX6_clauseKind_21 hO_X6_clauseKind fLn_6_111 fLs_6_111
theorem dX6_clauseKind_23 : decode cX6_clauseKind 23 = .ok (.invokevirtual 108, 3) := by decide +kernel
theorem tX6_clauseKind_23 {d : Nat} {l0 : Option Value} {y0 : Value} {a : Nat} {m : jmM} {Q : Option Value → jmM → Prop} : AW d 93 23 [l0] [y0, .ref a] m Q ↔ (mS m a).1 = 6 ∧ CC d 108 [.ref a, y0] m (jK d 93 26 [l0] [] Q) := A_callV hB_X6_clauseKind dX6_clauseKind_23 hO_X6_clauseKind fS_6_108 ⟨Nat.le_of_ble_eq_true rfl, Nat.le_of_ble_eq_true rfl⟩ rfl rfl rfl
theorem dX6_clauseKind_26 : decode cX6_clauseKind 26 = .ok (.ifCond .eq 7, 3) := by decide +kernel
theorem tX6_clauseKind_26 {d : Nat} {l0 : Option Value} {x : Int32} {m : jmM} {Q : Option Value → jmM → Prop} : AW d 93 26 [l0] [.int x] m Q ↔ if x = 0 then AW d 93 33 [l0] [] m Q else AW d 93 29 [l0] [] m Q := A_if_eq hB_X6_clauseKind dX6_clauseKind_26 (by decide)
theorem dX6_clauseKind_29 : decode cX6_clauseKind 29 = .ok (.iconst 2, 1) := by decide +kernel
theorem tX6_clauseKind_29 {d : Nat} {l0 : Option Value} {m : jmM} {Q : Option Value → jmM → Prop} : AW d 93 29 [l0] [] m Q ↔ AW d 93 30 [l0] [.int 2] m Q := A_iconst hB_X6_clauseKind dX6_clauseKind_29 (by decide)
theorem dX6_clauseKind_30 : decode cX6_clauseKind 30 = .ok (.goto 4, 3) := by decide +kernel
theorem tX6_clauseKind_30 {d : Nat} {l0 : Option Value} {v0 : Value} {m : jmM} {Q : Option Value → jmM → Prop} : AW d 93 30 [l0] [v0] m Q ↔ AW d 93 34 [l0] [v0] m Q := A_goto hB_X6_clauseKind dX6_clauseKind_30 (by decide)
theorem dX6_clauseKind_33 : decode cX6_clauseKind 33 = .ok (.iconst (-1), 1) := by decide +kernel
theorem tX6_clauseKind_33 {d : Nat} {l0 : Option Value} {m : jmM} {Q : Option Value → jmM → Prop} : AW d 93 33 [l0] [] m Q ↔ AW d 93 34 [l0] [.int (-1)] m Q := A_iconst hB_X6_clauseKind dX6_clauseKind_33 (by decide)
theorem dX6_clauseKind_34 : decode cX6_clauseKind 34 = .ok (.ireturn, 1) := by decide +kernel
theorem tX6_clauseKind_34 {d : Nat} {l0 : Option Value} {x : Int32} {m : jmM} {Q : Option Value → jmM → Prop} : AW d 93 34 [l0] [.int x] m Q ↔ Q (some (.int x)) m := A_ireturn hB_X6_clauseKind dX6_clauseKind_34 hR_X6_clauseKind
theorem dX6_clauseKind_35 : decode cX6_clauseKind 35 = .ok (.aload_n 0, 1) := by decide +kernel
theorem tX6_clauseKind_35 {d : Nat} {x : Nat} {m : jmM} {Q : Option Value → jmM → Prop} : AW d 93 35 [some (.ref x)] [] m Q ↔ AW d 93 36 [some (.ref x)] [.ref x] m Q := A_aload_n hB_X6_clauseKind dX6_clauseKind_35 rfl
theorem dX6_clauseKind_36 : decode cX6_clauseKind 36 = .ok (.ldc 113, 2) := by decide +kernel
theorem tX6_clauseKind_36 {d : Nat} {l0 : Option Value} {v0 : Value} {m : jmM} {Q : Option Value → jmM → Prop} : AW d 93 36 [l0] [v0] m Q ↔ AW d 93 38 [l0] [.ref (jScr + 1 + 2), v0] m Q := A_ldcS hB_X6_clauseKind dX6_clauseKind_36 hO_X6_clauseKind fLn_6_113 fLs_6_113
theorem dX6_clauseKind_38 : decode cX6_clauseKind 38 = .ok (.invokevirtual 108, 3) := by decide +kernel
theorem tX6_clauseKind_38 {d : Nat} {l0 : Option Value} {y0 : Value} {a : Nat} {m : jmM} {Q : Option Value → jmM → Prop} : AW d 93 38 [l0] [y0, .ref a] m Q ↔ (mS m a).1 = 6 ∧ CC d 108 [.ref a, y0] m (jK d 93 41 [l0] [] Q) := A_callV hB_X6_clauseKind dX6_clauseKind_38 hO_X6_clauseKind fS_6_108 ⟨Nat.le_of_ble_eq_true rfl, Nat.le_of_ble_eq_true rfl⟩ rfl rfl rfl
theorem dX6_clauseKind_41 : decode cX6_clauseKind 41 = .ok (.ifCond .eq 5, 3) := by decide +kernel
theorem tX6_clauseKind_41 {d : Nat} {l0 : Option Value} {x : Int32} {m : jmM} {Q : Option Value → jmM → Prop} : AW d 93 41 [l0] [.int x] m Q ↔ if x = 0 then AW d 93 46 [l0] [] m Q else AW d 93 44 [l0] [] m Q := A_if_eq hB_X6_clauseKind dX6_clauseKind_41 (by decide)
theorem dX6_clauseKind_44 : decode cX6_clauseKind 44 = .ok (.iconst 0, 1) := by decide +kernel
theorem tX6_clauseKind_44 {d : Nat} {l0 : Option Value} {m : jmM} {Q : Option Value → jmM → Prop} : AW d 93 44 [l0] [] m Q ↔ AW d 93 45 [l0] [.int 0] m Q := A_iconst hB_X6_clauseKind dX6_clauseKind_44 (by decide)
theorem dX6_clauseKind_45 : decode cX6_clauseKind 45 = .ok (.ireturn, 1) := by decide +kernel
theorem tX6_clauseKind_45 {d : Nat} {l0 : Option Value} {x : Int32} {m : jmM} {Q : Option Value → jmM → Prop} : AW d 93 45 [l0] [.int x] m Q ↔ Q (some (.int x)) m := A_ireturn hB_X6_clauseKind dX6_clauseKind_45 hR_X6_clauseKind
theorem dX6_clauseKind_46 : decode cX6_clauseKind 46 = .ok (.aload_n 0, 1) := by decide +kernel
theorem tX6_clauseKind_46 {d : Nat} {x : Nat} {m : jmM} {Q : Option Value → jmM → Prop} : AW d 93 46 [some (.ref x)] [] m Q ↔ AW d 93 47 [some (.ref x)] [.ref x] m Q := A_aload_n hB_X6_clauseKind dX6_clauseKind_46 rfl
theorem dX6_clauseKind_47 : decode cX6_clauseKind 47 = .ok (.ldc 115, 2) := by decide +kernel
theorem tX6_clauseKind_47 {d : Nat} {l0 : Option Value} {v0 : Value} {m : jmM} {Q : Option Value → jmM → Prop} : AW d 93 47 [l0] [v0] m Q ↔ AW d 93 49 [l0] [.ref (jScr + 1 + 3), v0] m Q := A_ldcS hB_X6_clauseKind dX6_clauseKind_47 hO_X6_clauseKind fLn_6_115 fLs_6_115
theorem dX6_clauseKind_49 : decode cX6_clauseKind 49 = .ok (.invokevirtual 108, 3) := by decide +kernel
theorem tX6_clauseKind_49 {d : Nat} {l0 : Option Value} {y0 : Value} {a : Nat} {m : jmM} {Q : Option Value → jmM → Prop} : AW d 93 49 [l0] [y0, .ref a] m Q ↔ (mS m a).1 = 6 ∧ CC d 108 [.ref a, y0] m (jK d 93 52 [l0] [] Q) := A_callV hB_X6_clauseKind dX6_clauseKind_49 hO_X6_clauseKind fS_6_108 ⟨Nat.le_of_ble_eq_true rfl, Nat.le_of_ble_eq_true rfl⟩ rfl rfl rfl
theorem dX6_clauseKind_52 : decode cX6_clauseKind 52 = .ok (.ifCond .eq 7, 3) := by decide +kernel
theorem tX6_clauseKind_52 {d : Nat} {l0 : Option Value} {x : Int32} {m : jmM} {Q : Option Value → jmM → Prop} : AW d 93 52 [l0] [.int x] m Q ↔ if x = 0 then AW d 93 59 [l0] [] m Q else AW d 93 55 [l0] [] m Q := A_if_eq hB_X6_clauseKind dX6_clauseKind_52 (by decide)
theorem dX6_clauseKind_55 : decode cX6_clauseKind 55 = .ok (.iconst 3, 1) := by decide +kernel
theorem tX6_clauseKind_55 {d : Nat} {l0 : Option Value} {m : jmM} {Q : Option Value → jmM → Prop} : AW d 93 55 [l0] [] m Q ↔ AW d 93 56 [l0] [.int 3] m Q := A_iconst hB_X6_clauseKind dX6_clauseKind_55 (by decide)
theorem dX6_clauseKind_56 : decode cX6_clauseKind 56 = .ok (.goto 30, 3) := by decide +kernel
theorem tX6_clauseKind_56 {d : Nat} {l0 : Option Value} {v0 : Value} {m : jmM} {Q : Option Value → jmM → Prop} : AW d 93 56 [l0] [v0] m Q ↔ AW d 93 86 [l0] [v0] m Q := A_goto hB_X6_clauseKind dX6_clauseKind_56 (by decide)
theorem dX6_clauseKind_59 : decode cX6_clauseKind 59 = .ok (.aload_n 0, 1) := by decide +kernel
theorem tX6_clauseKind_59 {d : Nat} {x : Nat} {m : jmM} {Q : Option Value → jmM → Prop} : AW d 93 59 [some (.ref x)] [] m Q ↔ AW d 93 60 [some (.ref x)] [.ref x] m Q := A_aload_n hB_X6_clauseKind dX6_clauseKind_59 rfl
theorem dX6_clauseKind_60 : decode cX6_clauseKind 60 = .ok (.ldc 117, 2) := by decide +kernel
theorem tX6_clauseKind_60 {d : Nat} {l0 : Option Value} {v0 : Value} {m : jmM} {Q : Option Value → jmM → Prop} : AW d 93 60 [l0] [v0] m Q ↔ AW d 93 62 [l0] [.ref (jScr + 1 + 4), v0] m Q := A_ldcS hB_X6_clauseKind dX6_clauseKind_60 hO_X6_clauseKind fLn_6_117 fLs_6_117
theorem dX6_clauseKind_62 : decode cX6_clauseKind 62 = .ok (.invokevirtual 108, 3) := by decide +kernel
theorem tX6_clauseKind_62 {d : Nat} {l0 : Option Value} {y0 : Value} {a : Nat} {m : jmM} {Q : Option Value → jmM → Prop} : AW d 93 62 [l0] [y0, .ref a] m Q ↔ (mS m a).1 = 6 ∧ CC d 108 [.ref a, y0] m (jK d 93 65 [l0] [] Q) := A_callV hB_X6_clauseKind dX6_clauseKind_62 hO_X6_clauseKind fS_6_108 ⟨Nat.le_of_ble_eq_true rfl, Nat.le_of_ble_eq_true rfl⟩ rfl rfl rfl
theorem dX6_clauseKind_65 : decode cX6_clauseKind 65 = .ok (.ifCond .eq 7, 3) := by decide +kernel
theorem tX6_clauseKind_65 {d : Nat} {l0 : Option Value} {x : Int32} {m : jmM} {Q : Option Value → jmM → Prop} : AW d 93 65 [l0] [.int x] m Q ↔ if x = 0 then AW d 93 72 [l0] [] m Q else AW d 93 68 [l0] [] m Q := A_if_eq hB_X6_clauseKind dX6_clauseKind_65 (by decide)
theorem dX6_clauseKind_68 : decode cX6_clauseKind 68 = .ok (.iconst 4, 1) := by decide +kernel
theorem tX6_clauseKind_68 {d : Nat} {l0 : Option Value} {m : jmM} {Q : Option Value → jmM → Prop} : AW d 93 68 [l0] [] m Q ↔ AW d 93 69 [l0] [.int 4] m Q := A_iconst hB_X6_clauseKind dX6_clauseKind_68 (by decide)
theorem dX6_clauseKind_69 : decode cX6_clauseKind 69 = .ok (.goto 17, 3) := by decide +kernel
theorem tX6_clauseKind_69 {d : Nat} {l0 : Option Value} {v0 : Value} {m : jmM} {Q : Option Value → jmM → Prop} : AW d 93 69 [l0] [v0] m Q ↔ AW d 93 86 [l0] [v0] m Q := A_goto hB_X6_clauseKind dX6_clauseKind_69 (by decide)
theorem dX6_clauseKind_72 : decode cX6_clauseKind 72 = .ok (.aload_n 0, 1) := by decide +kernel
theorem tX6_clauseKind_72 {d : Nat} {x : Nat} {m : jmM} {Q : Option Value → jmM → Prop} : AW d 93 72 [some (.ref x)] [] m Q ↔ AW d 93 73 [some (.ref x)] [.ref x] m Q := A_aload_n hB_X6_clauseKind dX6_clauseKind_72 rfl
theorem dX6_clauseKind_73 : decode cX6_clauseKind 73 = .ok (.ldc 119, 2) := by decide +kernel
theorem tX6_clauseKind_73 {d : Nat} {l0 : Option Value} {v0 : Value} {m : jmM} {Q : Option Value → jmM → Prop} : AW d 93 73 [l0] [v0] m Q ↔ AW d 93 75 [l0] [.ref (jScr + 1 + 5), v0] m Q := A_ldcS hB_X6_clauseKind dX6_clauseKind_73 hO_X6_clauseKind fLn_6_119 fLs_6_119
theorem dX6_clauseKind_75 : decode cX6_clauseKind 75 = .ok (.invokevirtual 108, 3) := by decide +kernel
theorem tX6_clauseKind_75 {d : Nat} {l0 : Option Value} {y0 : Value} {a : Nat} {m : jmM} {Q : Option Value → jmM → Prop} : AW d 93 75 [l0] [y0, .ref a] m Q ↔ (mS m a).1 = 6 ∧ CC d 108 [.ref a, y0] m (jK d 93 78 [l0] [] Q) := A_callV hB_X6_clauseKind dX6_clauseKind_75 hO_X6_clauseKind fS_6_108 ⟨Nat.le_of_ble_eq_true rfl, Nat.le_of_ble_eq_true rfl⟩ rfl rfl rfl
theorem dX6_clauseKind_78 : decode cX6_clauseKind 78 = .ok (.ifCond .eq 7, 3) := by decide +kernel
theorem tX6_clauseKind_78 {d : Nat} {l0 : Option Value} {x : Int32} {m : jmM} {Q : Option Value → jmM → Prop} : AW d 93 78 [l0] [.int x] m Q ↔ if x = 0 then AW d 93 85 [l0] [] m Q else AW d 93 81 [l0] [] m Q := A_if_eq hB_X6_clauseKind dX6_clauseKind_78 (by decide)
theorem dX6_clauseKind_81 : decode cX6_clauseKind 81 = .ok (.iconst 5, 1) := by decide +kernel
theorem tX6_clauseKind_81 {d : Nat} {l0 : Option Value} {m : jmM} {Q : Option Value → jmM → Prop} : AW d 93 81 [l0] [] m Q ↔ AW d 93 82 [l0] [.int 5] m Q := A_iconst hB_X6_clauseKind dX6_clauseKind_81 (by decide)
theorem dX6_clauseKind_82 : decode cX6_clauseKind 82 = .ok (.goto 4, 3) := by decide +kernel
theorem tX6_clauseKind_82 {d : Nat} {l0 : Option Value} {v0 : Value} {m : jmM} {Q : Option Value → jmM → Prop} : AW d 93 82 [l0] [v0] m Q ↔ AW d 93 86 [l0] [v0] m Q := A_goto hB_X6_clauseKind dX6_clauseKind_82 (by decide)
theorem dX6_clauseKind_85 : decode cX6_clauseKind 85 = .ok (.iconst (-1), 1) := by decide +kernel
theorem tX6_clauseKind_85 {d : Nat} {l0 : Option Value} {m : jmM} {Q : Option Value → jmM → Prop} : AW d 93 85 [l0] [] m Q ↔ AW d 93 86 [l0] [.int (-1)] m Q := A_iconst hB_X6_clauseKind dX6_clauseKind_85 (by decide)
theorem dX6_clauseKind_86 : decode cX6_clauseKind 86 = .ok (.ireturn, 1) := by decide +kernel
theorem tX6_clauseKind_86 {d : Nat} {l0 : Option Value} {x : Int32} {m : jmM} {Q : Option Value → jmM → Prop} : AW d 93 86 [l0] [.int x] m Q ↔ Q (some (.int x)) m := A_ireturn hB_X6_clauseKind dX6_clauseKind_86 hR_X6_clauseKind
theorem hB_X6_readTest : jB 94 = cX6_readTest := rfl
theorem hO_X6_readTest : jO 94 = 6 := rfl
theorem hR_X6_readTest : jRt 94 = none := rfl
theorem nX6_readTest (d : Nat) (x0 : Nat) (x1 : Int32) (m : jmM) (Q : Option Value → jmM → Prop) : CC (d + 1) 94 [.ref x0, .int x1] m Q ↔ AW d 94 0 [some (.ref x0), some (.int x1), none] [] m Q := CC_body (Nat.le_of_ble_eq_true rfl)
theorem dX6_readTest_0 : decode cX6_readTest 0 = .ok (.aload_n 0, 1) := by decide +kernel
theorem tX6_readTest_0 {d : Nat} {l1 l2 : Option Value} {x : Nat} {m : jmM} {Q : Option Value → jmM → Prop} : AW d 94 0 [some (.ref x), l1, l2] [] m Q ↔ AW d 94 1 [some (.ref x), l1, l2] [.ref x] m Q := A_aload_n hB_X6_readTest dX6_readTest_0 rfl
theorem dX6_readTest_1 : decode cX6_readTest 1 = .ok (.iload_n 1, 1) := by decide +kernel
theorem tX6_readTest_1 {d : Nat} {l0 l2 : Option Value} {v0 : Value} {x : Int32} {m : jmM} {Q : Option Value → jmM → Prop} : AW d 94 1 [l0, some (.int x), l2] [v0] m Q ↔ AW d 94 2 [l0, some (.int x), l2] [.int x, v0] m Q := A_iload_n hB_X6_readTest dX6_readTest_1 rfl
theorem dX6_readTest_2 : decode cX6_readTest 2 = .ok (.invokevirtual 121, 3) := by decide +kernel
theorem tX6_readTest_2 {d : Nat} {l0 l1 l2 : Option Value} {y0 : Value} {a : Nat} {m : jmM} {Q : Option Value → jmM → Prop} : AW d 94 2 [l0, l1, l2] [y0, .ref a] m Q ↔ (mS m a).1 = 6 ∧ CC d 95 [.ref a, y0] m (jK d 94 5 [l0, l1, l2] [] Q) := A_callV hB_X6_readTest dX6_readTest_2 hO_X6_readTest fS_6_121 ⟨Nat.le_of_ble_eq_true rfl, Nat.le_of_ble_eq_true rfl⟩ rfl rfl rfl
theorem dX6_readTest_5 : decode cX6_readTest 5 = .ok (.iconst 0, 1) := by decide +kernel
theorem tX6_readTest_5 {d : Nat} {l0 l1 l2 : Option Value} {m : jmM} {Q : Option Value → jmM → Prop} : AW d 94 5 [l0, l1, l2] [] m Q ↔ AW d 94 6 [l0, l1, l2] [.int 0] m Q := A_iconst hB_X6_readTest dX6_readTest_5 (by decide)
theorem dX6_readTest_6 : decode cX6_readTest 6 = .ok (.istore_n 2, 1) := by decide +kernel
theorem tX6_readTest_6 {d : Nat} {l0 l1 l2 : Option Value} {x : Int32} {m : jmM} {Q : Option Value → jmM → Prop} : AW d 94 6 [l0, l1, l2] [.int x] m Q ↔ AW d 94 7 [l0, jc1 l1, some (.int x)] [] m Q := A_istore_n hB_X6_readTest dX6_readTest_6 (Nat.le_of_ble_eq_true rfl) rfl
theorem dX6_readTest_7 : decode cX6_readTest 7 = .ok (.iload_n 2, 1) := by decide +kernel
theorem tX6_readTest_7 {d : Nat} {l0 l1 : Option Value} {x : Int32} {m : jmM} {Q : Option Value → jmM → Prop} : AW d 94 7 [l0, l1, some (.int x)] [] m Q ↔ AW d 94 8 [l0, l1, some (.int x)] [.int x] m Q := A_iload_n hB_X6_readTest dX6_readTest_7 rfl
theorem dX6_readTest_8 : decode cX6_readTest 8 = .ok (.sipush 400, 3) := by decide +kernel
theorem tX6_readTest_8 {d : Nat} {l0 l1 l2 : Option Value} {v0 : Value} {m : jmM} {Q : Option Value → jmM → Prop} : AW d 94 8 [l0, l1, l2] [v0] m Q ↔ AW d 94 11 [l0, l1, l2] [.int 400, v0] m Q := A_sipush hB_X6_readTest dX6_readTest_8 rfl
theorem dX6_readTest_11 : decode cX6_readTest 11 = .ok (.if_icmp .ge 32, 3) := by decide +kernel
theorem tX6_readTest_11 {d : Nat} {l0 l1 l2 : Option Value} {x y : Int32} {m : jmM} {Q : Option Value → jmM → Prop} : AW d 94 11 [l0, l1, l2] [.int y, .int x] m Q ↔ if y ≤ x then AW d 94 43 [l0, l1, l2] [] m Q else AW d 94 14 [l0, l1, l2] [] m Q := A_icmp_ge hB_X6_readTest dX6_readTest_11 (by decide)
theorem dX6_readTest_14 : decode cX6_readTest 14 = .ok (.aload_n 0, 1) := by decide +kernel
theorem tX6_readTest_14 {d : Nat} {l1 l2 : Option Value} {x : Nat} {m : jmM} {Q : Option Value → jmM → Prop} : AW d 94 14 [some (.ref x), l1, l2] [] m Q ↔ AW d 94 15 [some (.ref x), l1, l2] [.ref x] m Q := A_aload_n hB_X6_readTest dX6_readTest_14 rfl
theorem dX6_readTest_15 : decode cX6_readTest 15 = .ok (.ldc 124, 2) := by decide +kernel
theorem tX6_readTest_15 {d : Nat} {l0 l1 l2 : Option Value} {v0 : Value} {m : jmM} {Q : Option Value → jmM → Prop} : AW d 94 15 [l0, l1, l2] [v0] m Q ↔ AW d 94 17 [l0, l1, l2] [.ref (jScr + 1 + 15), v0] m Q := A_ldcS hB_X6_readTest dX6_readTest_15 hO_X6_readTest fLn_6_124 fLs_6_124
theorem dX6_readTest_17 : decode cX6_readTest 17 = .ok (.invokevirtual 95, 3) := by decide +kernel
theorem tX6_readTest_17 {d : Nat} {l0 l1 l2 : Option Value} {y0 : Value} {a : Nat} {m : jmM} {Q : Option Value → jmM → Prop} : AW d 94 17 [l0, l1, l2] [y0, .ref a] m Q ↔ (mS m a).1 = 6 ∧ CC d 107 [.ref a, y0] m (jK d 94 20 [l0, l1, l2] [] Q) := A_callV hB_X6_readTest dX6_readTest_17 hO_X6_readTest fS_6_95 ⟨Nat.le_of_ble_eq_true rfl, Nat.le_of_ble_eq_true rfl⟩ rfl rfl rfl
theorem dX6_readTest_20 : decode cX6_readTest 20 = .ok (.ifCond .eq 23, 3) := by decide +kernel
theorem tX6_readTest_20 {d : Nat} {l0 l1 l2 : Option Value} {x : Int32} {m : jmM} {Q : Option Value → jmM → Prop} : AW d 94 20 [l0, l1, l2] [.int x] m Q ↔ if x = 0 then AW d 94 43 [l0, l1, l2] [] m Q else AW d 94 23 [l0, l1, l2] [] m Q := A_if_eq hB_X6_readTest dX6_readTest_20 (by decide)
theorem dX6_readTest_23 : decode cX6_readTest 23 = .ok (.aload_n 0, 1) := by decide +kernel
theorem tX6_readTest_23 {d : Nat} {l1 l2 : Option Value} {x : Nat} {m : jmM} {Q : Option Value → jmM → Prop} : AW d 94 23 [some (.ref x), l1, l2] [] m Q ↔ AW d 94 24 [some (.ref x), l1, l2] [.ref x] m Q := A_aload_n hB_X6_readTest dX6_readTest_23 rfl
theorem dX6_readTest_24 : decode cX6_readTest 24 = .ok (.iload_n 1, 1) := by decide +kernel
theorem tX6_readTest_24 {d : Nat} {l0 l2 : Option Value} {v0 : Value} {x : Int32} {m : jmM} {Q : Option Value → jmM → Prop} : AW d 94 24 [l0, some (.int x), l2] [v0] m Q ↔ AW d 94 25 [l0, some (.int x), l2] [.int x, v0] m Q := A_iload_n hB_X6_readTest dX6_readTest_24 rfl
theorem dX6_readTest_25 : decode cX6_readTest 25 = .ok (.invokevirtual 121, 3) := by decide +kernel
theorem tX6_readTest_25 {d : Nat} {l0 l1 l2 : Option Value} {y0 : Value} {a : Nat} {m : jmM} {Q : Option Value → jmM → Prop} : AW d 94 25 [l0, l1, l2] [y0, .ref a] m Q ↔ (mS m a).1 = 6 ∧ CC d 95 [.ref a, y0] m (jK d 94 28 [l0, l1, l2] [] Q) := A_callV hB_X6_readTest dX6_readTest_25 hO_X6_readTest fS_6_121 ⟨Nat.le_of_ble_eq_true rfl, Nat.le_of_ble_eq_true rfl⟩ rfl rfl rfl
theorem dX6_readTest_28 : decode cX6_readTest 28 = .ok (.aload_n 0, 1) := by decide +kernel
theorem tX6_readTest_28 {d : Nat} {l1 l2 : Option Value} {x : Nat} {m : jmM} {Q : Option Value → jmM → Prop} : AW d 94 28 [some (.ref x), l1, l2] [] m Q ↔ AW d 94 29 [some (.ref x), l1, l2] [.ref x] m Q := A_aload_n hB_X6_readTest dX6_readTest_28 rfl
theorem dX6_readTest_29 : decode cX6_readTest 29 = .ok (.getfield 21, 3) := by decide +kernel
theorem tX6_readTest_29 {d : Nat} {l0 l1 l2 : Option Value} {a : Nat} {m : jmM} {Q : Option Value → jmM → Prop} : AW d 94 29 [l0, l1, l2] [.ref a] m Q ↔ (mS m a).1 = 6 ∧ AW d 94 32 [l0, l1, l2] [va_rf (mR m a 1)] m Q := A_getfield (f := fun m a => va_rf (mR m a 1)) hB_X6_readTest dX6_readTest_29 hO_X6_readTest fF_6_21 rfl
theorem dX6_readTest_32 : decode cX6_readTest 32 = .ok (.bipush (-22), 2) := by decide +kernel
theorem tX6_readTest_32 {d : Nat} {l0 l1 l2 : Option Value} {v0 : Value} {m : jmM} {Q : Option Value → jmM → Prop} : AW d 94 32 [l0, l1, l2] [v0] m Q ↔ AW d 94 34 [l0, l1, l2] [.int (-22), v0] m Q := A_bipush hB_X6_readTest dX6_readTest_32 rfl
theorem dX6_readTest_34 : decode cX6_readTest 34 = .ok (.invokevirtual 126, 3) := by decide +kernel
theorem tX6_readTest_34 {d : Nat} {l0 l1 l2 : Option Value} {y0 : Value} {a : Nat} {m : jmM} {Q : Option Value → jmM → Prop} : AW d 94 34 [l0, l1, l2] [y0, .ref a] m Q ↔ (mS m a).1 = 3 ∧ CC d 27 [.ref a, y0] m (jK d 94 37 [l0, l1, l2] [] Q) := A_callV hB_X6_readTest dX6_readTest_34 hO_X6_readTest fS_6_126 ⟨Nat.le_of_ble_eq_true rfl, Nat.le_of_ble_eq_true rfl⟩ rfl rfl rfl
theorem dX6_readTest_37 : decode cX6_readTest 37 = .ok (.iinc 2 1, 3) := by decide +kernel
theorem tX6_readTest_37 {d : Nat} {l0 l1 : Option Value} {x : Int32} {m : jmM} {Q : Option Value → jmM → Prop} : AW d 94 37 [l0, l1, some (.int x)] [] m Q ↔ AW d 94 40 [l0, jc1 l1, some (.int (x + 1))] [] m Q := A_iinc hB_X6_readTest dX6_readTest_37 rfl (Nat.le_of_ble_eq_true rfl) (v := 1) (by decide) rfl
theorem dX6_readTest_40 : decode cX6_readTest 40 = .ok (.goto (-33), 3) := by decide +kernel
theorem tX6_readTest_40 {d : Nat} {l0 l1 l2 : Option Value} {m : jmM} {Q : Option Value → jmM → Prop} : AW d 94 40 [l0, l1, l2] [] m Q ↔ AW d 94 7 [l0, l1, l2] [] m Q := A_goto hB_X6_readTest dX6_readTest_40 (by decide)
theorem dX6_readTest_43 : decode cX6_readTest 43 = .ok (.return_, 1) := by decide +kernel
theorem tX6_readTest_43 {d : Nat} {l0 l1 l2 : Option Value} {m : jmM} {Q : Option Value → jmM → Prop} : AW d 94 43 [l0, l1, l2] [] m Q ↔ Q none m := A_return hB_X6_readTest dX6_readTest_43 hR_X6_readTest
theorem hB_X6_readPart : jB 95 = cX6_readPart := rfl
theorem hO_X6_readPart : jO 95 = 6 := rfl
theorem hR_X6_readPart : jRt 95 = none := rfl
theorem nX6_readPart (d : Nat) (x0 : Nat) (x1 : Int32) (m : jmM) (Q : Option Value → jmM → Prop) : CC (d + 1) 95 [.ref x0, .int x1] m Q ↔ AW d 95 0 [some (.ref x0), some (.int x1), none] [] m Q := CC_body (Nat.le_of_ble_eq_true rfl)
theorem dX6_readPart_0 : decode cX6_readPart 0 = .ok (.aload_n 0, 1) := by decide +kernel
theorem tX6_readPart_0 {d : Nat} {l1 l2 : Option Value} {x : Nat} {m : jmM} {Q : Option Value → jmM → Prop} : AW d 95 0 [some (.ref x), l1, l2] [] m Q ↔ AW d 95 1 [some (.ref x), l1, l2] [.ref x] m Q := A_aload_n hB_X6_readPart dX6_readPart_0 rfl
theorem dX6_readPart_1 : decode cX6_readPart 1 = .ok (.iload_n 1, 1) := by decide +kernel
theorem tX6_readPart_1 {d : Nat} {l0 l2 : Option Value} {v0 : Value} {x : Int32} {m : jmM} {Q : Option Value → jmM → Prop} : AW d 95 1 [l0, some (.int x), l2] [v0] m Q ↔ AW d 95 2 [l0, some (.int x), l2] [.int x, v0] m Q := A_iload_n hB_X6_readPart dX6_readPart_1 rfl
theorem dX6_readPart_2 : decode cX6_readPart 2 = .ok (.invokevirtual 129, 3) := by decide +kernel
theorem tX6_readPart_2 {d : Nat} {l0 l1 l2 : Option Value} {y0 : Value} {a : Nat} {m : jmM} {Q : Option Value → jmM → Prop} : AW d 95 2 [l0, l1, l2] [y0, .ref a] m Q ↔ (mS m a).1 = 6 ∧ CC d 96 [.ref a, y0] m (jK d 95 5 [l0, l1, l2] [] Q) := A_callV hB_X6_readPart dX6_readPart_2 hO_X6_readPart fS_6_129 ⟨Nat.le_of_ble_eq_true rfl, Nat.le_of_ble_eq_true rfl⟩ rfl rfl rfl
theorem dX6_readPart_5 : decode cX6_readPart 5 = .ok (.iconst 0, 1) := by decide +kernel
theorem tX6_readPart_5 {d : Nat} {l0 l1 l2 : Option Value} {m : jmM} {Q : Option Value → jmM → Prop} : AW d 95 5 [l0, l1, l2] [] m Q ↔ AW d 95 6 [l0, l1, l2] [.int 0] m Q := A_iconst hB_X6_readPart dX6_readPart_5 (by decide)
theorem dX6_readPart_6 : decode cX6_readPart 6 = .ok (.istore_n 2, 1) := by decide +kernel
theorem tX6_readPart_6 {d : Nat} {l0 l1 l2 : Option Value} {x : Int32} {m : jmM} {Q : Option Value → jmM → Prop} : AW d 95 6 [l0, l1, l2] [.int x] m Q ↔ AW d 95 7 [l0, jc1 l1, some (.int x)] [] m Q := A_istore_n hB_X6_readPart dX6_readPart_6 (Nat.le_of_ble_eq_true rfl) rfl
theorem dX6_readPart_7 : decode cX6_readPart 7 = .ok (.iload_n 2, 1) := by decide +kernel
theorem tX6_readPart_7 {d : Nat} {l0 l1 : Option Value} {x : Int32} {m : jmM} {Q : Option Value → jmM → Prop} : AW d 95 7 [l0, l1, some (.int x)] [] m Q ↔ AW d 95 8 [l0, l1, some (.int x)] [.int x] m Q := A_iload_n hB_X6_readPart dX6_readPart_7 rfl
theorem dX6_readPart_8 : decode cX6_readPart 8 = .ok (.sipush 400, 3) := by decide +kernel
theorem tX6_readPart_8 {d : Nat} {l0 l1 l2 : Option Value} {v0 : Value} {m : jmM} {Q : Option Value → jmM → Prop} : AW d 95 8 [l0, l1, l2] [v0] m Q ↔ AW d 95 11 [l0, l1, l2] [.int 400, v0] m Q := A_sipush hB_X6_readPart dX6_readPart_8 rfl
theorem dX6_readPart_11 : decode cX6_readPart 11 = .ok (.if_icmp .ge 32, 3) := by decide +kernel
theorem tX6_readPart_11 {d : Nat} {l0 l1 l2 : Option Value} {x y : Int32} {m : jmM} {Q : Option Value → jmM → Prop} : AW d 95 11 [l0, l1, l2] [.int y, .int x] m Q ↔ if y ≤ x then AW d 95 43 [l0, l1, l2] [] m Q else AW d 95 14 [l0, l1, l2] [] m Q := A_icmp_ge hB_X6_readPart dX6_readPart_11 (by decide)
theorem dX6_readPart_14 : decode cX6_readPart 14 = .ok (.aload_n 0, 1) := by decide +kernel
theorem tX6_readPart_14 {d : Nat} {l1 l2 : Option Value} {x : Nat} {m : jmM} {Q : Option Value → jmM → Prop} : AW d 95 14 [some (.ref x), l1, l2] [] m Q ↔ AW d 95 15 [some (.ref x), l1, l2] [.ref x] m Q := A_aload_n hB_X6_readPart dX6_readPart_14 rfl
theorem dX6_readPart_15 : decode cX6_readPart 15 = .ok (.ldc 132, 2) := by decide +kernel
theorem tX6_readPart_15 {d : Nat} {l0 l1 l2 : Option Value} {v0 : Value} {m : jmM} {Q : Option Value → jmM → Prop} : AW d 95 15 [l0, l1, l2] [v0] m Q ↔ AW d 95 17 [l0, l1, l2] [.ref (jScr + 1 + 14), v0] m Q := A_ldcS hB_X6_readPart dX6_readPart_15 hO_X6_readPart fLn_6_132 fLs_6_132
theorem dX6_readPart_17 : decode cX6_readPart 17 = .ok (.invokevirtual 95, 3) := by decide +kernel
theorem tX6_readPart_17 {d : Nat} {l0 l1 l2 : Option Value} {y0 : Value} {a : Nat} {m : jmM} {Q : Option Value → jmM → Prop} : AW d 95 17 [l0, l1, l2] [y0, .ref a] m Q ↔ (mS m a).1 = 6 ∧ CC d 107 [.ref a, y0] m (jK d 95 20 [l0, l1, l2] [] Q) := A_callV hB_X6_readPart dX6_readPart_17 hO_X6_readPart fS_6_95 ⟨Nat.le_of_ble_eq_true rfl, Nat.le_of_ble_eq_true rfl⟩ rfl rfl rfl
theorem dX6_readPart_20 : decode cX6_readPart 20 = .ok (.ifCond .eq 23, 3) := by decide +kernel
theorem tX6_readPart_20 {d : Nat} {l0 l1 l2 : Option Value} {x : Int32} {m : jmM} {Q : Option Value → jmM → Prop} : AW d 95 20 [l0, l1, l2] [.int x] m Q ↔ if x = 0 then AW d 95 43 [l0, l1, l2] [] m Q else AW d 95 23 [l0, l1, l2] [] m Q := A_if_eq hB_X6_readPart dX6_readPart_20 (by decide)
theorem dX6_readPart_23 : decode cX6_readPart 23 = .ok (.aload_n 0, 1) := by decide +kernel
theorem tX6_readPart_23 {d : Nat} {l1 l2 : Option Value} {x : Nat} {m : jmM} {Q : Option Value → jmM → Prop} : AW d 95 23 [some (.ref x), l1, l2] [] m Q ↔ AW d 95 24 [some (.ref x), l1, l2] [.ref x] m Q := A_aload_n hB_X6_readPart dX6_readPart_23 rfl
theorem dX6_readPart_24 : decode cX6_readPart 24 = .ok (.iload_n 1, 1) := by decide +kernel
theorem tX6_readPart_24 {d : Nat} {l0 l2 : Option Value} {v0 : Value} {x : Int32} {m : jmM} {Q : Option Value → jmM → Prop} : AW d 95 24 [l0, some (.int x), l2] [v0] m Q ↔ AW d 95 25 [l0, some (.int x), l2] [.int x, v0] m Q := A_iload_n hB_X6_readPart dX6_readPart_24 rfl
theorem dX6_readPart_25 : decode cX6_readPart 25 = .ok (.invokevirtual 129, 3) := by decide +kernel
theorem tX6_readPart_25 {d : Nat} {l0 l1 l2 : Option Value} {y0 : Value} {a : Nat} {m : jmM} {Q : Option Value → jmM → Prop} : AW d 95 25 [l0, l1, l2] [y0, .ref a] m Q ↔ (mS m a).1 = 6 ∧ CC d 96 [.ref a, y0] m (jK d 95 28 [l0, l1, l2] [] Q) := A_callV hB_X6_readPart dX6_readPart_25 hO_X6_readPart fS_6_129 ⟨Nat.le_of_ble_eq_true rfl, Nat.le_of_ble_eq_true rfl⟩ rfl rfl rfl
theorem dX6_readPart_28 : decode cX6_readPart 28 = .ok (.aload_n 0, 1) := by decide +kernel
theorem tX6_readPart_28 {d : Nat} {l1 l2 : Option Value} {x : Nat} {m : jmM} {Q : Option Value → jmM → Prop} : AW d 95 28 [some (.ref x), l1, l2] [] m Q ↔ AW d 95 29 [some (.ref x), l1, l2] [.ref x] m Q := A_aload_n hB_X6_readPart dX6_readPart_28 rfl
theorem dX6_readPart_29 : decode cX6_readPart 29 = .ok (.getfield 21, 3) := by decide +kernel
theorem tX6_readPart_29 {d : Nat} {l0 l1 l2 : Option Value} {a : Nat} {m : jmM} {Q : Option Value → jmM → Prop} : AW d 95 29 [l0, l1, l2] [.ref a] m Q ↔ (mS m a).1 = 6 ∧ AW d 95 32 [l0, l1, l2] [va_rf (mR m a 1)] m Q := A_getfield (f := fun m a => va_rf (mR m a 1)) hB_X6_readPart dX6_readPart_29 hO_X6_readPart fF_6_21 rfl
theorem dX6_readPart_32 : decode cX6_readPart 32 = .ok (.bipush (-21), 2) := by decide +kernel
theorem tX6_readPart_32 {d : Nat} {l0 l1 l2 : Option Value} {v0 : Value} {m : jmM} {Q : Option Value → jmM → Prop} : AW d 95 32 [l0, l1, l2] [v0] m Q ↔ AW d 95 34 [l0, l1, l2] [.int (-21), v0] m Q := A_bipush hB_X6_readPart dX6_readPart_32 rfl
theorem dX6_readPart_34 : decode cX6_readPart 34 = .ok (.invokevirtual 126, 3) := by decide +kernel
theorem tX6_readPart_34 {d : Nat} {l0 l1 l2 : Option Value} {y0 : Value} {a : Nat} {m : jmM} {Q : Option Value → jmM → Prop} : AW d 95 34 [l0, l1, l2] [y0, .ref a] m Q ↔ (mS m a).1 = 3 ∧ CC d 27 [.ref a, y0] m (jK d 95 37 [l0, l1, l2] [] Q) := A_callV hB_X6_readPart dX6_readPart_34 hO_X6_readPart fS_6_126 ⟨Nat.le_of_ble_eq_true rfl, Nat.le_of_ble_eq_true rfl⟩ rfl rfl rfl
theorem dX6_readPart_37 : decode cX6_readPart 37 = .ok (.iinc 2 1, 3) := by decide +kernel
theorem tX6_readPart_37 {d : Nat} {l0 l1 : Option Value} {x : Int32} {m : jmM} {Q : Option Value → jmM → Prop} : AW d 95 37 [l0, l1, some (.int x)] [] m Q ↔ AW d 95 40 [l0, jc1 l1, some (.int (x + 1))] [] m Q := A_iinc hB_X6_readPart dX6_readPart_37 rfl (Nat.le_of_ble_eq_true rfl) (v := 1) (by decide) rfl
theorem dX6_readPart_40 : decode cX6_readPart 40 = .ok (.goto (-33), 3) := by decide +kernel
theorem tX6_readPart_40 {d : Nat} {l0 l1 l2 : Option Value} {m : jmM} {Q : Option Value → jmM → Prop} : AW d 95 40 [l0, l1, l2] [] m Q ↔ AW d 95 7 [l0, l1, l2] [] m Q := A_goto hB_X6_readPart dX6_readPart_40 (by decide)
theorem dX6_readPart_43 : decode cX6_readPart 43 = .ok (.return_, 1) := by decide +kernel
theorem tX6_readPart_43 {d : Nat} {l0 l1 l2 : Option Value} {m : jmM} {Q : Option Value → jmM → Prop} : AW d 95 43 [l0, l1, l2] [] m Q ↔ Q none m := A_return hB_X6_readPart dX6_readPart_43 hR_X6_readPart
theorem hB_X6_readFact : jB 96 = cX6_readFact := rfl
theorem hO_X6_readFact : jO 96 = 6 := rfl
theorem hR_X6_readFact : jRt 96 = none := rfl
theorem nX6_readFact (d : Nat) (x0 : Nat) (x1 : Int32) (m : jmM) (Q : Option Value → jmM → Prop) : CC (d + 1) 96 [.ref x0, .int x1] m Q ↔ AW d 96 0 [some (.ref x0), some (.int x1), none, none] [] m Q := CC_body (Nat.le_of_ble_eq_true rfl)
theorem dX6_readFact_0 : decode cX6_readFact 0 = .ok (.aload_n 0, 1) := by decide +kernel
theorem tX6_readFact_0 {d : Nat} {l1 l2 l3 : Option Value} {x : Nat} {m : jmM} {Q : Option Value → jmM → Prop} : AW d 96 0 [some (.ref x), l1, l2, l3] [] m Q ↔ AW d 96 1 [some (.ref x), l1, l2, l3] [.ref x] m Q := A_aload_n hB_X6_readFact dX6_readFact_0 rfl
theorem dX6_readFact_1 : decode cX6_readFact 1 = .ok (.invokevirtual 52, 3) := by decide +kernel
theorem tX6_readFact_1 {d : Nat} {l0 l1 l2 l3 : Option Value} {a : Nat} {m : jmM} {Q : Option Value → jmM → Prop} : AW d 96 1 [l0, l1, l2, l3] [.ref a] m Q ↔ (mS m a).1 = 6 ∧ CC d 105 [.ref a] m (jK d 96 4 [l0, l1, l2, l3] [] Q) := A_callV hB_X6_readFact dX6_readFact_1 hO_X6_readFact fS_6_52 ⟨Nat.le_of_ble_eq_true rfl, Nat.le_of_ble_eq_true rfl⟩ rfl rfl rfl
theorem dX6_readFact_4 : decode cX6_readFact 4 = .ok (.istore_n 2, 1) := by decide +kernel
theorem tX6_readFact_4 {d : Nat} {l0 l1 l2 l3 : Option Value} {x : Int32} {m : jmM} {Q : Option Value → jmM → Prop} : AW d 96 4 [l0, l1, l2, l3] [.int x] m Q ↔ AW d 96 5 [l0, jc1 l1, some (.int x), l3] [] m Q := A_istore_n hB_X6_readFact dX6_readFact_4 (Nat.le_of_ble_eq_true rfl) rfl
theorem dX6_readFact_5 : decode cX6_readFact 5 = .ok (.aload_n 0, 1) := by decide +kernel
theorem tX6_readFact_5 {d : Nat} {l1 l2 l3 : Option Value} {x : Nat} {m : jmM} {Q : Option Value → jmM → Prop} : AW d 96 5 [some (.ref x), l1, l2, l3] [] m Q ↔ AW d 96 6 [some (.ref x), l1, l2, l3] [.ref x] m Q := A_aload_n hB_X6_readFact dX6_readFact_5 rfl
theorem dX6_readFact_6 : decode cX6_readFact 6 = .ok (.ldc 134, 2) := by decide +kernel
theorem tX6_readFact_6 {d : Nat} {l0 l1 l2 l3 : Option Value} {v0 : Value} {m : jmM} {Q : Option Value → jmM → Prop} : AW d 96 6 [l0, l1, l2, l3] [v0] m Q ↔ AW d 96 8 [l0, l1, l2, l3] [.ref (jScr + 1 + 13), v0] m Q := A_ldcS hB_X6_readFact dX6_readFact_6 hO_X6_readFact fLn_6_134 fLs_6_134
theorem dX6_readFact_8 : decode cX6_readFact 8 = .ok (.invokevirtual 108, 3) := by decide +kernel
theorem tX6_readFact_8 {d : Nat} {l0 l1 l2 l3 : Option Value} {y0 : Value} {a : Nat} {m : jmM} {Q : Option Value → jmM → Prop} : AW d 96 8 [l0, l1, l2, l3] [y0, .ref a] m Q ↔ (mS m a).1 = 6 ∧ CC d 108 [.ref a, y0] m (jK d 96 11 [l0, l1, l2, l3] [] Q) := A_callV hB_X6_readFact dX6_readFact_8 hO_X6_readFact fS_6_108 ⟨Nat.le_of_ble_eq_true rfl, Nat.le_of_ble_eq_true rfl⟩ rfl rfl rfl
theorem dX6_readFact_11 : decode cX6_readFact 11 = .ok (.ifCond .eq 38, 3) := by decide +kernel
theorem tX6_readFact_11 {d : Nat} {l0 l1 l2 l3 : Option Value} {x : Int32} {m : jmM} {Q : Option Value → jmM → Prop} : AW d 96 11 [l0, l1, l2, l3] [.int x] m Q ↔ if x = 0 then AW d 96 49 [l0, l1, l2, l3] [] m Q else AW d 96 14 [l0, l1, l2, l3] [] m Q := A_if_eq hB_X6_readFact dX6_readFact_11 (by decide)
theorem dX6_readFact_14 : decode cX6_readFact 14 = .ok (.aload_n 0, 1) := by decide +kernel
theorem tX6_readFact_14 {d : Nat} {l1 l2 l3 : Option Value} {x : Nat} {m : jmM} {Q : Option Value → jmM → Prop} : AW d 96 14 [some (.ref x), l1, l2, l3] [] m Q ↔ AW d 96 15 [some (.ref x), l1, l2, l3] [.ref x] m Q := A_aload_n hB_X6_readFact dX6_readFact_14 rfl
theorem dX6_readFact_15 : decode cX6_readFact 15 = .ok (.iload_n 1, 1) := by decide +kernel
theorem tX6_readFact_15 {d : Nat} {l0 l2 l3 : Option Value} {v0 : Value} {x : Int32} {m : jmM} {Q : Option Value → jmM → Prop} : AW d 96 15 [l0, some (.int x), l2, l3] [v0] m Q ↔ AW d 96 16 [l0, some (.int x), l2, l3] [.int x, v0] m Q := A_iload_n hB_X6_readFact dX6_readFact_15 rfl
theorem dX6_readFact_16 : decode cX6_readFact 16 = .ok (.invokevirtual 136, 3) := by decide +kernel
theorem tX6_readFact_16 {d : Nat} {l0 l1 l2 l3 : Option Value} {y0 : Value} {a : Nat} {m : jmM} {Q : Option Value → jmM → Prop} : AW d 96 16 [l0, l1, l2, l3] [y0, .ref a] m Q ↔ (mS m a).1 = 6 ∧ CC d 97 [.ref a, y0] m (jK d 96 19 [l0, l1, l2, l3] [] Q) := A_callV hB_X6_readFact dX6_readFact_16 hO_X6_readFact fS_6_136 ⟨Nat.le_of_ble_eq_true rfl, Nat.le_of_ble_eq_true rfl⟩ rfl rfl rfl
theorem dX6_readFact_19 : decode cX6_readFact 19 = .ok (.ifCond .eq 100, 3) := by decide +kernel
theorem tX6_readFact_19 {d : Nat} {l0 l1 l2 l3 : Option Value} {x : Int32} {m : jmM} {Q : Option Value → jmM → Prop} : AW d 96 19 [l0, l1, l2, l3] [.int x] m Q ↔ if x = 0 then AW d 96 119 [l0, l1, l2, l3] [] m Q else AW d 96 22 [l0, l1, l2, l3] [] m Q := A_if_eq hB_X6_readFact dX6_readFact_19 (by decide)
theorem dX6_readFact_22 : decode cX6_readFact 22 = .ok (.aload_n 0, 1) := by decide +kernel
theorem tX6_readFact_22 {d : Nat} {l1 l2 l3 : Option Value} {x : Nat} {m : jmM} {Q : Option Value → jmM → Prop} : AW d 96 22 [some (.ref x), l1, l2, l3] [] m Q ↔ AW d 96 23 [some (.ref x), l1, l2, l3] [.ref x] m Q := A_aload_n hB_X6_readFact dX6_readFact_22 rfl
theorem dX6_readFact_23 : decode cX6_readFact 23 = .ok (.aload_n 0, 1) := by decide +kernel
theorem tX6_readFact_23 {d : Nat} {l1 l2 l3 : Option Value} {v0 : Value} {x : Nat} {m : jmM} {Q : Option Value → jmM → Prop} : AW d 96 23 [some (.ref x), l1, l2, l3] [v0] m Q ↔ AW d 96 24 [some (.ref x), l1, l2, l3] [.ref x, v0] m Q := A_aload_n hB_X6_readFact dX6_readFact_23 rfl
theorem dX6_readFact_24 : decode cX6_readFact 24 = .ok (.invokevirtual 77, 3) := by decide +kernel
theorem tX6_readFact_24 {d : Nat} {l0 l1 l2 l3 : Option Value} {v1 : Value} {a : Nat} {m : jmM} {Q : Option Value → jmM → Prop} : AW d 96 24 [l0, l1, l2, l3] [.ref a, v1] m Q ↔ (mS m a).1 = 6 ∧ CC d 109 [.ref a] m (jK d 96 27 [l0, l1, l2, l3] [v1] Q) := A_callV hB_X6_readFact dX6_readFact_24 hO_X6_readFact fS_6_77 ⟨Nat.le_of_ble_eq_true rfl, Nat.le_of_ble_eq_true rfl⟩ rfl rfl rfl
theorem dX6_readFact_27 : decode cX6_readFact 27 = .ok (.putfield 29, 3) := by decide +kernel
theorem tX6_readFact_27 {d : Nat} {l0 l1 l2 l3 : Option Value} {x : Int32} {a : Nat} {m : jmM} {Q : Option Value → jmM → Prop} : AW d 96 27 [l0, l1, l2, l3] [.int x, .ref a] m Q ↔ (mS m a).1 = 6 ∧ AW d 96 30 [l0, l1, l2, l3] [] (cI m a (jup (mI m a) 3 x)) Q := A_putI hB_X6_readFact dX6_readFact_27 hO_X6_readFact fF_6_29 rfl (fun h => Bool.noConfusion h)
theorem dX6_readFact_30 : decode cX6_readFact 30 = .ok (.aload_n 0, 1) := by decide +kernel
theorem tX6_readFact_30 {d : Nat} {l1 l2 l3 : Option Value} {x : Nat} {m : jmM} {Q : Option Value → jmM → Prop} : AW d 96 30 [some (.ref x), l1, l2, l3] [] m Q ↔ AW d 96 31 [some (.ref x), l1, l2, l3] [.ref x] m Q := A_aload_n hB_X6_readFact dX6_readFact_30 rfl
theorem dX6_readFact_31 : decode cX6_readFact 31 = .ok (.iload_n 1, 1) := by decide +kernel
theorem tX6_readFact_31 {d : Nat} {l0 l2 l3 : Option Value} {v0 : Value} {x : Int32} {m : jmM} {Q : Option Value → jmM → Prop} : AW d 96 31 [l0, some (.int x), l2, l3] [v0] m Q ↔ AW d 96 32 [l0, some (.int x), l2, l3] [.int x, v0] m Q := A_iload_n hB_X6_readFact dX6_readFact_31 rfl
theorem dX6_readFact_32 : decode cX6_readFact 32 = .ok (.iconst 1, 1) := by decide +kernel
theorem tX6_readFact_32 {d : Nat} {l0 l1 l2 l3 : Option Value} {v0 v1 : Value} {m : jmM} {Q : Option Value → jmM → Prop} : AW d 96 32 [l0, l1, l2, l3] [v0, v1] m Q ↔ AW d 96 33 [l0, l1, l2, l3] [.int 1, v0, v1] m Q := A_iconst hB_X6_readFact dX6_readFact_32 (by decide)
theorem dX6_readFact_33 : decode cX6_readFact 33 = .ok (.iadd, 1) := by decide +kernel
theorem tX6_readFact_33 {d : Nat} {l0 l1 l2 l3 : Option Value} {v2 : Value} {x y : Int32} {m : jmM} {Q : Option Value → jmM → Prop} : AW d 96 33 [l0, l1, l2, l3] [.int y, .int x, v2] m Q ↔ AW d 96 34 [l0, l1, l2, l3] [.int (x + y), v2] m Q := A_iadd hB_X6_readFact dX6_readFact_33
theorem dX6_readFact_34 : decode cX6_readFact 34 = .ok (.invokevirtual 129, 3) := by decide +kernel
theorem tX6_readFact_34 {d : Nat} {l0 l1 l2 l3 : Option Value} {y0 : Value} {a : Nat} {m : jmM} {Q : Option Value → jmM → Prop} : AW d 96 34 [l0, l1, l2, l3] [y0, .ref a] m Q ↔ (mS m a).1 = 6 ∧ CC d 96 [.ref a, y0] m (jK d 96 37 [l0, l1, l2, l3] [] Q) := A_callV hB_X6_readFact dX6_readFact_34 hO_X6_readFact fS_6_129 ⟨Nat.le_of_ble_eq_true rfl, Nat.le_of_ble_eq_true rfl⟩ rfl rfl rfl
theorem dX6_readFact_37 : decode cX6_readFact 37 = .ok (.aload_n 0, 1) := by decide +kernel
theorem tX6_readFact_37 {d : Nat} {l1 l2 l3 : Option Value} {x : Nat} {m : jmM} {Q : Option Value → jmM → Prop} : AW d 96 37 [some (.ref x), l1, l2, l3] [] m Q ↔ AW d 96 38 [some (.ref x), l1, l2, l3] [.ref x] m Q := A_aload_n hB_X6_readFact dX6_readFact_37 rfl
theorem dX6_readFact_38 : decode cX6_readFact 38 = .ok (.getfield 21, 3) := by decide +kernel
theorem tX6_readFact_38 {d : Nat} {l0 l1 l2 l3 : Option Value} {a : Nat} {m : jmM} {Q : Option Value → jmM → Prop} : AW d 96 38 [l0, l1, l2, l3] [.ref a] m Q ↔ (mS m a).1 = 6 ∧ AW d 96 41 [l0, l1, l2, l3] [va_rf (mR m a 1)] m Q := A_getfield (f := fun m a => va_rf (mR m a 1)) hB_X6_readFact dX6_readFact_38 hO_X6_readFact fF_6_21 rfl
theorem dX6_readFact_41 : decode cX6_readFact 41 = .ok (.bipush (-20), 2) := by decide +kernel
theorem tX6_readFact_41 {d : Nat} {l0 l1 l2 l3 : Option Value} {v0 : Value} {m : jmM} {Q : Option Value → jmM → Prop} : AW d 96 41 [l0, l1, l2, l3] [v0] m Q ↔ AW d 96 43 [l0, l1, l2, l3] [.int (-20), v0] m Q := A_bipush hB_X6_readFact dX6_readFact_41 rfl
theorem dX6_readFact_43 : decode cX6_readFact 43 = .ok (.invokevirtual 126, 3) := by decide +kernel
theorem tX6_readFact_43 {d : Nat} {l0 l1 l2 l3 : Option Value} {y0 : Value} {a : Nat} {m : jmM} {Q : Option Value → jmM → Prop} : AW d 96 43 [l0, l1, l2, l3] [y0, .ref a] m Q ↔ (mS m a).1 = 3 ∧ CC d 27 [.ref a, y0] m (jK d 96 46 [l0, l1, l2, l3] [] Q) := A_callV hB_X6_readFact dX6_readFact_43 hO_X6_readFact fS_6_126 ⟨Nat.le_of_ble_eq_true rfl, Nat.le_of_ble_eq_true rfl⟩ rfl rfl rfl
theorem dX6_readFact_46 : decode cX6_readFact 46 = .ok (.goto 73, 3) := by decide +kernel
theorem tX6_readFact_46 {d : Nat} {l0 l1 l2 l3 : Option Value} {m : jmM} {Q : Option Value → jmM → Prop} : AW d 96 46 [l0, l1, l2, l3] [] m Q ↔ AW d 96 119 [l0, l1, l2, l3] [] m Q := A_goto hB_X6_readFact dX6_readFact_46 (by decide)
theorem dX6_readFact_49 : decode cX6_readFact 49 = .ok (.iload_n 2, 1) := by decide +kernel
theorem tX6_readFact_49 {d : Nat} {l0 l1 l3 : Option Value} {x : Int32} {m : jmM} {Q : Option Value → jmM → Prop} : AW d 96 49 [l0, l1, some (.int x), l3] [] m Q ↔ AW d 96 50 [l0, l1, some (.int x), l3] [.int x] m Q := A_iload_n hB_X6_readFact dX6_readFact_49 rfl
theorem dX6_readFact_50 : decode cX6_readFact 50 = .ok (.bipush 91, 2) := by decide +kernel
theorem tX6_readFact_50 {d : Nat} {l0 l1 l2 l3 : Option Value} {v0 : Value} {m : jmM} {Q : Option Value → jmM → Prop} : AW d 96 50 [l0, l1, l2, l3] [v0] m Q ↔ AW d 96 52 [l0, l1, l2, l3] [.int 91, v0] m Q := A_bipush hB_X6_readFact dX6_readFact_50 rfl
theorem dX6_readFact_52 : decode cX6_readFact 52 = .ok (.if_icmp .ne 37, 3) := by decide +kernel
theorem tX6_readFact_52 {d : Nat} {l0 l1 l2 l3 : Option Value} {x y : Int32} {m : jmM} {Q : Option Value → jmM → Prop} : AW d 96 52 [l0, l1, l2, l3] [.int y, .int x] m Q ↔ if x = y then AW d 96 55 [l0, l1, l2, l3] [] m Q else AW d 96 89 [l0, l1, l2, l3] [] m Q := A_icmp_ne hB_X6_readFact dX6_readFact_52 (by decide)
theorem dX6_readFact_55 : decode cX6_readFact 55 = .ok (.aload_n 0, 1) := by decide +kernel
theorem tX6_readFact_55 {d : Nat} {l1 l2 l3 : Option Value} {x : Nat} {m : jmM} {Q : Option Value → jmM → Prop} : AW d 96 55 [some (.ref x), l1, l2, l3] [] m Q ↔ AW d 96 56 [some (.ref x), l1, l2, l3] [.ref x] m Q := A_aload_n hB_X6_readFact dX6_readFact_55 rfl
theorem dX6_readFact_56 : decode cX6_readFact 56 = .ok (.iload_n 1, 1) := by decide +kernel
theorem tX6_readFact_56 {d : Nat} {l0 l2 l3 : Option Value} {v0 : Value} {x : Int32} {m : jmM} {Q : Option Value → jmM → Prop} : AW d 96 56 [l0, some (.int x), l2, l3] [v0] m Q ↔ AW d 96 57 [l0, some (.int x), l2, l3] [.int x, v0] m Q := A_iload_n hB_X6_readFact dX6_readFact_56 rfl
theorem dX6_readFact_57 : decode cX6_readFact 57 = .ok (.invokevirtual 136, 3) := by decide +kernel
theorem tX6_readFact_57 {d : Nat} {l0 l1 l2 l3 : Option Value} {y0 : Value} {a : Nat} {m : jmM} {Q : Option Value → jmM → Prop} : AW d 96 57 [l0, l1, l2, l3] [y0, .ref a] m Q ↔ (mS m a).1 = 6 ∧ CC d 97 [.ref a, y0] m (jK d 96 60 [l0, l1, l2, l3] [] Q) := A_callV hB_X6_readFact dX6_readFact_57 hO_X6_readFact fS_6_136 ⟨Nat.le_of_ble_eq_true rfl, Nat.le_of_ble_eq_true rfl⟩ rfl rfl rfl
theorem dX6_readFact_60 : decode cX6_readFact 60 = .ok (.ifCond .eq 59, 3) := by decide +kernel
theorem tX6_readFact_60 {d : Nat} {l0 l1 l2 l3 : Option Value} {x : Int32} {m : jmM} {Q : Option Value → jmM → Prop} : AW d 96 60 [l0, l1, l2, l3] [.int x] m Q ↔ if x = 0 then AW d 96 119 [l0, l1, l2, l3] [] m Q else AW d 96 63 [l0, l1, l2, l3] [] m Q := A_if_eq hB_X6_readFact dX6_readFact_60 (by decide)
theorem dX6_readFact_63 : decode cX6_readFact 63 = .ok (.aload_n 0, 1) := by decide +kernel
theorem tX6_readFact_63 {d : Nat} {l1 l2 l3 : Option Value} {x : Nat} {m : jmM} {Q : Option Value → jmM → Prop} : AW d 96 63 [some (.ref x), l1, l2, l3] [] m Q ↔ AW d 96 64 [some (.ref x), l1, l2, l3] [.ref x] m Q := A_aload_n hB_X6_readFact dX6_readFact_63 rfl
theorem dX6_readFact_64 : decode cX6_readFact 64 = .ok (.dup, 1) := by decide +kernel
theorem tX6_readFact_64 {d : Nat} {l0 l1 l2 l3 : Option Value} {x : Nat} {m : jmM} {Q : Option Value → jmM → Prop} : AW d 96 64 [l0, l1, l2, l3] [.ref x] m Q ↔ AW d 96 65 [l0, l1, l2, l3] [.ref x, .ref x] m Q := A_dup_a hB_X6_readFact dX6_readFact_64
theorem dX6_readFact_65 : decode cX6_readFact 65 = .ok (.getfield 29, 3) := by decide +kernel
theorem tX6_readFact_65 {d : Nat} {l0 l1 l2 l3 : Option Value} {v1 : Value} {a : Nat} {m : jmM} {Q : Option Value → jmM → Prop} : AW d 96 65 [l0, l1, l2, l3] [.ref a, v1] m Q ↔ (mS m a).1 = 6 ∧ AW d 96 68 [l0, l1, l2, l3] [.int (mI m a 3), v1] m Q := A_getfield (f := fun m a => .int (mI m a 3)) hB_X6_readFact dX6_readFact_65 hO_X6_readFact fF_6_29 rfl
theorem dX6_readFact_68 : decode cX6_readFact 68 = .ok (.iconst 1, 1) := by decide +kernel
theorem tX6_readFact_68 {d : Nat} {l0 l1 l2 l3 : Option Value} {v0 v1 : Value} {m : jmM} {Q : Option Value → jmM → Prop} : AW d 96 68 [l0, l1, l2, l3] [v0, v1] m Q ↔ AW d 96 69 [l0, l1, l2, l3] [.int 1, v0, v1] m Q := A_iconst hB_X6_readFact dX6_readFact_68 (by decide)
theorem dX6_readFact_69 : decode cX6_readFact 69 = .ok (.iadd, 1) := by decide +kernel
theorem tX6_readFact_69 {d : Nat} {l0 l1 l2 l3 : Option Value} {v2 : Value} {x y : Int32} {m : jmM} {Q : Option Value → jmM → Prop} : AW d 96 69 [l0, l1, l2, l3] [.int y, .int x, v2] m Q ↔ AW d 96 70 [l0, l1, l2, l3] [.int (x + y), v2] m Q := A_iadd hB_X6_readFact dX6_readFact_69
theorem dX6_readFact_70 : decode cX6_readFact 70 = .ok (.putfield 29, 3) := by decide +kernel
theorem tX6_readFact_70 {d : Nat} {l0 l1 l2 l3 : Option Value} {x : Int32} {a : Nat} {m : jmM} {Q : Option Value → jmM → Prop} : AW d 96 70 [l0, l1, l2, l3] [.int x, .ref a] m Q ↔ (mS m a).1 = 6 ∧ AW d 96 73 [l0, l1, l2, l3] [] (cI m a (jup (mI m a) 3 x)) Q := A_putI hB_X6_readFact dX6_readFact_70 hO_X6_readFact fF_6_29 rfl (fun h => Bool.noConfusion h)
theorem dX6_readFact_73 : decode cX6_readFact 73 = .ok (.aload_n 0, 1) := by decide +kernel
theorem tX6_readFact_73 {d : Nat} {l1 l2 l3 : Option Value} {x : Nat} {m : jmM} {Q : Option Value → jmM → Prop} : AW d 96 73 [some (.ref x), l1, l2, l3] [] m Q ↔ AW d 96 74 [some (.ref x), l1, l2, l3] [.ref x] m Q := A_aload_n hB_X6_readFact dX6_readFact_73 rfl
theorem dX6_readFact_74 : decode cX6_readFact 74 = .ok (.iload_n 1, 1) := by decide +kernel
theorem tX6_readFact_74 {d : Nat} {l0 l2 l3 : Option Value} {v0 : Value} {x : Int32} {m : jmM} {Q : Option Value → jmM → Prop} : AW d 96 74 [l0, some (.int x), l2, l3] [v0] m Q ↔ AW d 96 75 [l0, some (.int x), l2, l3] [.int x, v0] m Q := A_iload_n hB_X6_readFact dX6_readFact_74 rfl
theorem dX6_readFact_75 : decode cX6_readFact 75 = .ok (.iconst 1, 1) := by decide +kernel
theorem tX6_readFact_75 {d : Nat} {l0 l1 l2 l3 : Option Value} {v0 v1 : Value} {m : jmM} {Q : Option Value → jmM → Prop} : AW d 96 75 [l0, l1, l2, l3] [v0, v1] m Q ↔ AW d 96 76 [l0, l1, l2, l3] [.int 1, v0, v1] m Q := A_iconst hB_X6_readFact dX6_readFact_75 (by decide)
theorem dX6_readFact_76 : decode cX6_readFact 76 = .ok (.iadd, 1) := by decide +kernel
theorem tX6_readFact_76 {d : Nat} {l0 l1 l2 l3 : Option Value} {v2 : Value} {x y : Int32} {m : jmM} {Q : Option Value → jmM → Prop} : AW d 96 76 [l0, l1, l2, l3] [.int y, .int x, v2] m Q ↔ AW d 96 77 [l0, l1, l2, l3] [.int (x + y), v2] m Q := A_iadd hB_X6_readFact dX6_readFact_76
theorem dX6_readFact_77 : decode cX6_readFact 77 = .ok (.invokevirtual 99, 3) := by decide +kernel
theorem tX6_readFact_77 {d : Nat} {l0 l1 l2 l3 : Option Value} {y0 : Value} {a : Nat} {m : jmM} {Q : Option Value → jmM → Prop} : AW d 96 77 [l0, l1, l2, l3] [y0, .ref a] m Q ↔ (mS m a).1 = 6 ∧ CC d 94 [.ref a, y0] m (jK d 96 80 [l0, l1, l2, l3] [] Q) := A_callV hB_X6_readFact dX6_readFact_77 hO_X6_readFact fS_6_99 ⟨Nat.le_of_ble_eq_true rfl, Nat.le_of_ble_eq_true rfl⟩ rfl rfl rfl
theorem dX6_readFact_80 : decode cX6_readFact 80 = .ok (.aload_n 0, 1) := by decide +kernel
theorem tX6_readFact_80 {d : Nat} {l1 l2 l3 : Option Value} {x : Nat} {m : jmM} {Q : Option Value → jmM → Prop} : AW d 96 80 [some (.ref x), l1, l2, l3] [] m Q ↔ AW d 96 81 [some (.ref x), l1, l2, l3] [.ref x] m Q := A_aload_n hB_X6_readFact dX6_readFact_80 rfl
theorem dX6_readFact_81 : decode cX6_readFact 81 = .ok (.bipush 93, 2) := by decide +kernel
theorem tX6_readFact_81 {d : Nat} {l0 l1 l2 l3 : Option Value} {v0 : Value} {m : jmM} {Q : Option Value → jmM → Prop} : AW d 96 81 [l0, l1, l2, l3] [v0] m Q ↔ AW d 96 83 [l0, l1, l2, l3] [.int 93, v0] m Q := A_bipush hB_X6_readFact dX6_readFact_81 rfl
theorem dX6_readFact_83 : decode cX6_readFact 83 = .ok (.invokevirtual 56, 3) := by decide +kernel
theorem tX6_readFact_83 {d : Nat} {l0 l1 l2 l3 : Option Value} {y0 : Value} {a : Nat} {m : jmM} {Q : Option Value → jmM → Prop} : AW d 96 83 [l0, l1, l2, l3] [y0, .ref a] m Q ↔ (mS m a).1 = 6 ∧ CC d 106 [.ref a, y0] m (jK d 96 86 [l0, l1, l2, l3] [] Q) := A_callV hB_X6_readFact dX6_readFact_83 hO_X6_readFact fS_6_56 ⟨Nat.le_of_ble_eq_true rfl, Nat.le_of_ble_eq_true rfl⟩ rfl rfl rfl
theorem dX6_readFact_86 : decode cX6_readFact 86 = .ok (.goto 33, 3) := by decide +kernel
theorem tX6_readFact_86 {d : Nat} {l0 l1 l2 l3 : Option Value} {m : jmM} {Q : Option Value → jmM → Prop} : AW d 96 86 [l0, l1, l2, l3] [] m Q ↔ AW d 96 119 [l0, l1, l2, l3] [] m Q := A_goto hB_X6_readFact dX6_readFact_86 (by decide)
theorem dX6_readFact_89 : decode cX6_readFact 89 = .ok (.aload_n 0, 1) := by decide +kernel
theorem tX6_readFact_89 {d : Nat} {l1 l2 l3 : Option Value} {x : Nat} {m : jmM} {Q : Option Value → jmM → Prop} : AW d 96 89 [some (.ref x), l1, l2, l3] [] m Q ↔ AW d 96 90 [some (.ref x), l1, l2, l3] [.ref x] m Q := A_aload_n hB_X6_readFact dX6_readFact_89 rfl
theorem dX6_readFact_90 : decode cX6_readFact 90 = .ok (.iload_n 1, 1) := by decide +kernel
theorem tX6_readFact_90 {d : Nat} {l0 l2 l3 : Option Value} {v0 : Value} {x : Int32} {m : jmM} {Q : Option Value → jmM → Prop} : AW d 96 90 [l0, some (.int x), l2, l3] [v0] m Q ↔ AW d 96 91 [l0, some (.int x), l2, l3] [.int x, v0] m Q := A_iload_n hB_X6_readFact dX6_readFact_90 rfl
theorem dX6_readFact_91 : decode cX6_readFact 91 = .ok (.invokevirtual 90, 3) := by decide +kernel
theorem tX6_readFact_91 {d : Nat} {l0 l1 l2 l3 : Option Value} {y0 : Value} {a : Nat} {m : jmM} {Q : Option Value → jmM → Prop} : AW d 96 91 [l0, l1, l2, l3] [y0, .ref a] m Q ↔ (mS m a).1 = 6 ∧ CC d 99 [.ref a, y0] m (jK d 96 94 [l0, l1, l2, l3] [] Q) := A_callV hB_X6_readFact dX6_readFact_91 hO_X6_readFact fS_6_90 ⟨Nat.le_of_ble_eq_true rfl, Nat.le_of_ble_eq_true rfl⟩ rfl rfl rfl
theorem dX6_readFact_94 : decode cX6_readFact 94 = .ok (.aload_n 0, 1) := by decide +kernel
theorem tX6_readFact_94 {d : Nat} {l1 l2 l3 : Option Value} {x : Nat} {m : jmM} {Q : Option Value → jmM → Prop} : AW d 96 94 [some (.ref x), l1, l2, l3] [] m Q ↔ AW d 96 95 [some (.ref x), l1, l2, l3] [.ref x] m Q := A_aload_n hB_X6_readFact dX6_readFact_94 rfl
theorem dX6_readFact_95 : decode cX6_readFact 95 = .ok (.invokevirtual 139, 3) := by decide +kernel
theorem tX6_readFact_95 {d : Nat} {l0 l1 l2 l3 : Option Value} {a : Nat} {m : jmM} {Q : Option Value → jmM → Prop} : AW d 96 95 [l0, l1, l2, l3] [.ref a] m Q ↔ (mS m a).1 = 6 ∧ CC d 98 [.ref a] m (jK d 96 98 [l0, l1, l2, l3] [] Q) := A_callV hB_X6_readFact dX6_readFact_95 hO_X6_readFact fS_6_139 ⟨Nat.le_of_ble_eq_true rfl, Nat.le_of_ble_eq_true rfl⟩ rfl rfl rfl
theorem dX6_readFact_98 : decode cX6_readFact 98 = .ok (.istore_n 3, 1) := by decide +kernel
theorem tX6_readFact_98 {d : Nat} {l0 l1 l2 l3 : Option Value} {x : Int32} {m : jmM} {Q : Option Value → jmM → Prop} : AW d 96 98 [l0, l1, l2, l3] [.int x] m Q ↔ AW d 96 99 [l0, l1, jc1 l2, some (.int x)] [] m Q := A_istore_n hB_X6_readFact dX6_readFact_98 (Nat.le_of_ble_eq_true rfl) rfl
theorem dX6_readFact_99 : decode cX6_readFact 99 = .ok (.aload_n 0, 1) := by decide +kernel
theorem tX6_readFact_99 {d : Nat} {l1 l2 l3 : Option Value} {x : Nat} {m : jmM} {Q : Option Value → jmM → Prop} : AW d 96 99 [some (.ref x), l1, l2, l3] [] m Q ↔ AW d 96 100 [some (.ref x), l1, l2, l3] [.ref x] m Q := A_aload_n hB_X6_readFact dX6_readFact_99 rfl
theorem dX6_readFact_100 : decode cX6_readFact 100 = .ok (.getfield 36, 3) := by decide +kernel
theorem tX6_readFact_100 {d : Nat} {l0 l1 l2 l3 : Option Value} {a : Nat} {m : jmM} {Q : Option Value → jmM → Prop} : AW d 96 100 [l0, l1, l2, l3] [.ref a] m Q ↔ (mS m a).1 = 6 ∧ AW d 96 103 [l0, l1, l2, l3] [.int (mI m a 5)] m Q := A_getfield (f := fun m a => .int (mI m a 5)) hB_X6_readFact dX6_readFact_100 hO_X6_readFact fF_6_36 rfl
theorem dX6_readFact_103 : decode cX6_readFact 103 = .ok (.ifCond .ne 16, 3) := by decide +kernel
theorem tX6_readFact_103 {d : Nat} {l0 l1 l2 l3 : Option Value} {x : Int32} {m : jmM} {Q : Option Value → jmM → Prop} : AW d 96 103 [l0, l1, l2, l3] [.int x] m Q ↔ if x = 0 then AW d 96 106 [l0, l1, l2, l3] [] m Q else AW d 96 119 [l0, l1, l2, l3] [] m Q := A_if_ne hB_X6_readFact dX6_readFact_103 (by decide)
theorem dX6_readFact_106 : decode cX6_readFact 106 = .ok (.aload_n 0, 1) := by decide +kernel
theorem tX6_readFact_106 {d : Nat} {l1 l2 l3 : Option Value} {x : Nat} {m : jmM} {Q : Option Value → jmM → Prop} : AW d 96 106 [some (.ref x), l1, l2, l3] [] m Q ↔ AW d 96 107 [some (.ref x), l1, l2, l3] [.ref x] m Q := A_aload_n hB_X6_readFact dX6_readFact_106 rfl
theorem dX6_readFact_107 : decode cX6_readFact 107 = .ok (.iload_n 1, 1) := by decide +kernel
theorem tX6_readFact_107 {d : Nat} {l0 l2 l3 : Option Value} {v0 : Value} {x : Int32} {m : jmM} {Q : Option Value → jmM → Prop} : AW d 96 107 [l0, some (.int x), l2, l3] [v0] m Q ↔ AW d 96 108 [l0, some (.int x), l2, l3] [.int x, v0] m Q := A_iload_n hB_X6_readFact dX6_readFact_107 rfl
theorem dX6_readFact_108 : decode cX6_readFact 108 = .ok (.invokevirtual 90, 3) := by decide +kernel
theorem tX6_readFact_108 {d : Nat} {l0 l1 l2 l3 : Option Value} {y0 : Value} {a : Nat} {m : jmM} {Q : Option Value → jmM → Prop} : AW d 96 108 [l0, l1, l2, l3] [y0, .ref a] m Q ↔ (mS m a).1 = 6 ∧ CC d 99 [.ref a, y0] m (jK d 96 111 [l0, l1, l2, l3] [] Q) := A_callV hB_X6_readFact dX6_readFact_108 hO_X6_readFact fS_6_90 ⟨Nat.le_of_ble_eq_true rfl, Nat.le_of_ble_eq_true rfl⟩ rfl rfl rfl
theorem dX6_readFact_111 : decode cX6_readFact 111 = .ok (.aload_n 0, 1) := by decide +kernel
theorem tX6_readFact_111 {d : Nat} {l1 l2 l3 : Option Value} {x : Nat} {m : jmM} {Q : Option Value → jmM → Prop} : AW d 96 111 [some (.ref x), l1, l2, l3] [] m Q ↔ AW d 96 112 [some (.ref x), l1, l2, l3] [.ref x] m Q := A_aload_n hB_X6_readFact dX6_readFact_111 rfl
theorem dX6_readFact_112 : decode cX6_readFact 112 = .ok (.getfield 21, 3) := by decide +kernel
theorem tX6_readFact_112 {d : Nat} {l0 l1 l2 l3 : Option Value} {a : Nat} {m : jmM} {Q : Option Value → jmM → Prop} : AW d 96 112 [l0, l1, l2, l3] [.ref a] m Q ↔ (mS m a).1 = 6 ∧ AW d 96 115 [l0, l1, l2, l3] [va_rf (mR m a 1)] m Q := A_getfield (f := fun m a => va_rf (mR m a 1)) hB_X6_readFact dX6_readFact_112 hO_X6_readFact fF_6_21 rfl
theorem dX6_readFact_115 : decode cX6_readFact 115 = .ok (.iload_n 3, 1) := by decide +kernel
theorem tX6_readFact_115 {d : Nat} {l0 l1 l2 : Option Value} {v0 : Value} {x : Int32} {m : jmM} {Q : Option Value → jmM → Prop} : AW d 96 115 [l0, l1, l2, some (.int x)] [v0] m Q ↔ AW d 96 116 [l0, l1, l2, some (.int x)] [.int x, v0] m Q := A_iload_n hB_X6_readFact dX6_readFact_115 rfl
theorem dX6_readFact_116 : decode cX6_readFact 116 = .ok (.invokevirtual 126, 3) := by decide +kernel
theorem tX6_readFact_116 {d : Nat} {l0 l1 l2 l3 : Option Value} {y0 : Value} {a : Nat} {m : jmM} {Q : Option Value → jmM → Prop} : AW d 96 116 [l0, l1, l2, l3] [y0, .ref a] m Q ↔ (mS m a).1 = 3 ∧ CC d 27 [.ref a, y0] m (jK d 96 119 [l0, l1, l2, l3] [] Q) := A_callV hB_X6_readFact dX6_readFact_116 hO_X6_readFact fS_6_126 ⟨Nat.le_of_ble_eq_true rfl, Nat.le_of_ble_eq_true rfl⟩ rfl rfl rfl
theorem dX6_readFact_119 : decode cX6_readFact 119 = .ok (.return_, 1) := by decide +kernel
theorem tX6_readFact_119 {d : Nat} {l0 l1 l2 l3 : Option Value} {m : jmM} {Q : Option Value → jmM → Prop} : AW d 96 119 [l0, l1, l2, l3] [] m Q ↔ Q none m := A_return hB_X6_readFact dX6_readFact_119 hR_X6_readFact
theorem hB_X6_opens : jB 97 = cX6_opens := rfl
theorem hO_X6_opens : jO 97 = 6 := rfl
theorem hR_X6_opens : jRt 97 = (some .boolean) := rfl
theorem nX6_opens (d : Nat) (x0 : Nat) (x1 : Int32) (m : jmM) (Q : Option Value → jmM → Prop) : CC (d + 1) 97 [.ref x0, .int x1] m Q ↔ AW d 97 0 [some (.ref x0), some (.int x1)] [] m Q := CC_body (Nat.le_of_ble_eq_true rfl)
theorem dX6_opens_0 : decode cX6_opens 0 = .ok (.iload_n 1, 1) := by decide +kernel
theorem tX6_opens_0 {d : Nat} {l0 : Option Value} {x : Int32} {m : jmM} {Q : Option Value → jmM → Prop} : AW d 97 0 [l0, some (.int x)] [] m Q ↔ AW d 97 1 [l0, some (.int x)] [.int x] m Q := A_iload_n hB_X6_opens dX6_opens_0 rfl
theorem dX6_opens_1 : decode cX6_opens 1 = .ok (.bipush 10, 2) := by decide +kernel
theorem tX6_opens_1 {d : Nat} {l0 l1 : Option Value} {v0 : Value} {m : jmM} {Q : Option Value → jmM → Prop} : AW d 97 1 [l0, l1] [v0] m Q ↔ AW d 97 3 [l0, l1] [.int 10, v0] m Q := A_bipush hB_X6_opens dX6_opens_1 rfl
theorem dX6_opens_3 : decode cX6_opens 3 = .ok (.if_icmp .lt 12, 3) := by decide +kernel
theorem tX6_opens_3 {d : Nat} {l0 l1 : Option Value} {x y : Int32} {m : jmM} {Q : Option Value → jmM → Prop} : AW d 97 3 [l0, l1] [.int y, .int x] m Q ↔ if x < y then AW d 97 15 [l0, l1] [] m Q else AW d 97 6 [l0, l1] [] m Q := A_icmp_lt hB_X6_opens dX6_opens_3 (by decide)
theorem dX6_opens_6 : decode cX6_opens 6 = .ok (.aload_n 0, 1) := by decide +kernel
theorem tX6_opens_6 {d : Nat} {l1 : Option Value} {x : Nat} {m : jmM} {Q : Option Value → jmM → Prop} : AW d 97 6 [some (.ref x), l1] [] m Q ↔ AW d 97 7 [some (.ref x), l1] [.ref x] m Q := A_aload_n hB_X6_opens dX6_opens_6 rfl
theorem dX6_opens_7 : decode cX6_opens 7 = .ok (.aload_n 0, 1) := by decide +kernel
theorem tX6_opens_7 {d : Nat} {l1 : Option Value} {v0 : Value} {x : Nat} {m : jmM} {Q : Option Value → jmM → Prop} : AW d 97 7 [some (.ref x), l1] [v0] m Q ↔ AW d 97 8 [some (.ref x), l1] [.ref x, v0] m Q := A_aload_n hB_X6_opens dX6_opens_7 rfl
theorem dX6_opens_8 : decode cX6_opens 8 = .ok (.getfield 29, 3) := by decide +kernel
theorem tX6_opens_8 {d : Nat} {l0 l1 : Option Value} {v1 : Value} {a : Nat} {m : jmM} {Q : Option Value → jmM → Prop} : AW d 97 8 [l0, l1] [.ref a, v1] m Q ↔ (mS m a).1 = 6 ∧ AW d 97 11 [l0, l1] [.int (mI m a 3), v1] m Q := A_getfield (f := fun m a => .int (mI m a 3)) hB_X6_opens dX6_opens_8 hO_X6_opens fF_6_29 rfl
theorem dX6_opens_11 : decode cX6_opens 11 = .ok (.iconst 2, 1) := by decide +kernel
theorem tX6_opens_11 {d : Nat} {l0 l1 : Option Value} {v0 v1 : Value} {m : jmM} {Q : Option Value → jmM → Prop} : AW d 97 11 [l0, l1] [v0, v1] m Q ↔ AW d 97 12 [l0, l1] [.int 2, v0, v1] m Q := A_iconst hB_X6_opens dX6_opens_11 (by decide)
theorem dX6_opens_12 : decode cX6_opens 12 = .ok (.invokevirtual 69, 3) := by decide +kernel
theorem tX6_opens_12 {d : Nat} {l0 l1 : Option Value} {y0 y1 : Value} {a : Nat} {m : jmM} {Q : Option Value → jmM → Prop} : AW d 97 12 [l0, l1] [y0, y1, .ref a] m Q ↔ (mS m a).1 = 6 ∧ CC d 91 [.ref a, y1, y0] m (jK d 97 15 [l0, l1] [] Q) := A_callV hB_X6_opens dX6_opens_12 hO_X6_opens fS_6_69 ⟨Nat.le_of_ble_eq_true rfl, Nat.le_of_ble_eq_true rfl⟩ rfl rfl rfl
theorem dX6_opens_15 : decode cX6_opens 15 = .ok (.aload_n 0, 1) := by decide +kernel
theorem tX6_opens_15 {d : Nat} {l1 : Option Value} {x : Nat} {m : jmM} {Q : Option Value → jmM → Prop} : AW d 97 15 [some (.ref x), l1] [] m Q ↔ AW d 97 16 [some (.ref x), l1] [.ref x] m Q := A_aload_n hB_X6_opens dX6_opens_15 rfl
theorem dX6_opens_16 : decode cX6_opens 16 = .ok (.getfield 36, 3) := by decide +kernel
theorem tX6_opens_16 {d : Nat} {l0 l1 : Option Value} {a : Nat} {m : jmM} {Q : Option Value → jmM → Prop} : AW d 97 16 [l0, l1] [.ref a] m Q ↔ (mS m a).1 = 6 ∧ AW d 97 19 [l0, l1] [.int (mI m a 5)] m Q := A_getfield (f := fun m a => .int (mI m a 5)) hB_X6_opens dX6_opens_16 hO_X6_opens fF_6_36 rfl
theorem dX6_opens_19 : decode cX6_opens 19 = .ok (.ifCond .ne 7, 3) := by decide +kernel
theorem tX6_opens_19 {d : Nat} {l0 l1 : Option Value} {x : Int32} {m : jmM} {Q : Option Value → jmM → Prop} : AW d 97 19 [l0, l1] [.int x] m Q ↔ if x = 0 then AW d 97 22 [l0, l1] [] m Q else AW d 97 26 [l0, l1] [] m Q := A_if_ne hB_X6_opens dX6_opens_19 (by decide)
theorem dX6_opens_22 : decode cX6_opens 22 = .ok (.iconst 1, 1) := by decide +kernel
theorem tX6_opens_22 {d : Nat} {l0 l1 : Option Value} {m : jmM} {Q : Option Value → jmM → Prop} : AW d 97 22 [l0, l1] [] m Q ↔ AW d 97 23 [l0, l1] [.int 1] m Q := A_iconst hB_X6_opens dX6_opens_22 (by decide)
theorem dX6_opens_23 : decode cX6_opens 23 = .ok (.goto 4, 3) := by decide +kernel
theorem tX6_opens_23 {d : Nat} {l0 l1 : Option Value} {v0 : Value} {m : jmM} {Q : Option Value → jmM → Prop} : AW d 97 23 [l0, l1] [v0] m Q ↔ AW d 97 27 [l0, l1] [v0] m Q := A_goto hB_X6_opens dX6_opens_23 (by decide)
theorem dX6_opens_26 : decode cX6_opens 26 = .ok (.iconst 0, 1) := by decide +kernel
theorem tX6_opens_26 {d : Nat} {l0 l1 : Option Value} {m : jmM} {Q : Option Value → jmM → Prop} : AW d 97 26 [l0, l1] [] m Q ↔ AW d 97 27 [l0, l1] [.int 0] m Q := A_iconst hB_X6_opens dX6_opens_26 (by decide)
theorem dX6_opens_27 : decode cX6_opens 27 = .ok (.ireturn, 1) := by decide +kernel
theorem tX6_opens_27 {d : Nat} {l0 l1 : Option Value} {x : Int32} {m : jmM} {Q : Option Value → jmM → Prop} : AW d 97 27 [l0, l1] [.int x] m Q ↔ jBool x ∧ Q (some (.int x)) m := A_zreturn hB_X6_opens dX6_opens_27 hR_X6_opens
theorem hB_X6_readSign : jB 98 = cX6_readSign := rfl
theorem hO_X6_readSign : jO 98 = 6 := rfl
theorem hR_X6_readSign : jRt 98 = (some .int) := rfl
theorem nX6_readSign (d : Nat) (x0 : Nat) (m : jmM) (Q : Option Value → jmM → Prop) : CC (d + 1) 98 [.ref x0] m Q ↔ AW d 98 0 [some (.ref x0), none, none] [] m Q := CC_body (Nat.le_of_ble_eq_true rfl)
theorem dX6_readSign_0 : decode cX6_readSign 0 = .ok (.aload_n 0, 1) := by decide +kernel
theorem tX6_readSign_0 {d : Nat} {l1 l2 : Option Value} {x : Nat} {m : jmM} {Q : Option Value → jmM → Prop} : AW d 98 0 [some (.ref x), l1, l2] [] m Q ↔ AW d 98 1 [some (.ref x), l1, l2] [.ref x] m Q := A_aload_n hB_X6_readSign dX6_readSign_0 rfl
theorem dX6_readSign_1 : decode cX6_readSign 1 = .ok (.invokevirtual 52, 3) := by decide +kernel
theorem tX6_readSign_1 {d : Nat} {l0 l1 l2 : Option Value} {a : Nat} {m : jmM} {Q : Option Value → jmM → Prop} : AW d 98 1 [l0, l1, l2] [.ref a] m Q ↔ (mS m a).1 = 6 ∧ CC d 105 [.ref a] m (jK d 98 4 [l0, l1, l2] [] Q) := A_callV hB_X6_readSign dX6_readSign_1 hO_X6_readSign fS_6_52 ⟨Nat.le_of_ble_eq_true rfl, Nat.le_of_ble_eq_true rfl⟩ rfl rfl rfl
theorem dX6_readSign_4 : decode cX6_readSign 4 = .ok (.istore_n 1, 1) := by decide +kernel
theorem tX6_readSign_4 {d : Nat} {l0 l1 l2 : Option Value} {x : Int32} {m : jmM} {Q : Option Value → jmM → Prop} : AW d 98 4 [l0, l1, l2] [.int x] m Q ↔ AW d 98 5 [jc1 l0, some (.int x), l2] [] m Q := A_istore_n hB_X6_readSign dX6_readSign_4 (Nat.le_of_ble_eq_true rfl) rfl
theorem dX6_readSign_5 : decode cX6_readSign 5 = .ok (.iload_n 1, 1) := by decide +kernel
theorem tX6_readSign_5 {d : Nat} {l0 l2 : Option Value} {x : Int32} {m : jmM} {Q : Option Value → jmM → Prop} : AW d 98 5 [l0, some (.int x), l2] [] m Q ↔ AW d 98 6 [l0, some (.int x), l2] [.int x] m Q := A_iload_n hB_X6_readSign dX6_readSign_5 rfl
theorem dX6_readSign_6 : decode cX6_readSign 6 = .ok (.bipush 60, 2) := by decide +kernel
theorem tX6_readSign_6 {d : Nat} {l0 l1 l2 : Option Value} {v0 : Value} {m : jmM} {Q : Option Value → jmM → Prop} : AW d 98 6 [l0, l1, l2] [v0] m Q ↔ AW d 98 8 [l0, l1, l2] [.int 60, v0] m Q := A_bipush hB_X6_readSign dX6_readSign_6 rfl
theorem dX6_readSign_8 : decode cX6_readSign 8 = .ok (.if_icmp .eq 27, 3) := by decide +kernel
theorem tX6_readSign_8 {d : Nat} {l0 l1 l2 : Option Value} {x y : Int32} {m : jmM} {Q : Option Value → jmM → Prop} : AW d 98 8 [l0, l1, l2] [.int y, .int x] m Q ↔ if x = y then AW d 98 35 [l0, l1, l2] [] m Q else AW d 98 11 [l0, l1, l2] [] m Q := A_icmp_eq hB_X6_readSign dX6_readSign_8 (by decide)
theorem dX6_readSign_11 : decode cX6_readSign 11 = .ok (.iload_n 1, 1) := by decide +kernel
theorem tX6_readSign_11 {d : Nat} {l0 l2 : Option Value} {x : Int32} {m : jmM} {Q : Option Value → jmM → Prop} : AW d 98 11 [l0, some (.int x), l2] [] m Q ↔ AW d 98 12 [l0, some (.int x), l2] [.int x] m Q := A_iload_n hB_X6_readSign dX6_readSign_11 rfl
theorem dX6_readSign_12 : decode cX6_readSign 12 = .ok (.bipush 61, 2) := by decide +kernel
theorem tX6_readSign_12 {d : Nat} {l0 l1 l2 : Option Value} {v0 : Value} {m : jmM} {Q : Option Value → jmM → Prop} : AW d 98 12 [l0, l1, l2] [v0] m Q ↔ AW d 98 14 [l0, l1, l2] [.int 61, v0] m Q := A_bipush hB_X6_readSign dX6_readSign_12 rfl
theorem dX6_readSign_14 : decode cX6_readSign 14 = .ok (.if_icmp .eq 21, 3) := by decide +kernel
theorem tX6_readSign_14 {d : Nat} {l0 l1 l2 : Option Value} {x y : Int32} {m : jmM} {Q : Option Value → jmM → Prop} : AW d 98 14 [l0, l1, l2] [.int y, .int x] m Q ↔ if x = y then AW d 98 35 [l0, l1, l2] [] m Q else AW d 98 17 [l0, l1, l2] [] m Q := A_icmp_eq hB_X6_readSign dX6_readSign_14 (by decide)
theorem dX6_readSign_17 : decode cX6_readSign 17 = .ok (.iload_n 1, 1) := by decide +kernel
theorem tX6_readSign_17 {d : Nat} {l0 l2 : Option Value} {x : Int32} {m : jmM} {Q : Option Value → jmM → Prop} : AW d 98 17 [l0, some (.int x), l2] [] m Q ↔ AW d 98 18 [l0, some (.int x), l2] [.int x] m Q := A_iload_n hB_X6_readSign dX6_readSign_17 rfl
theorem dX6_readSign_18 : decode cX6_readSign 18 = .ok (.bipush 62, 2) := by decide +kernel
theorem tX6_readSign_18 {d : Nat} {l0 l1 l2 : Option Value} {v0 : Value} {m : jmM} {Q : Option Value → jmM → Prop} : AW d 98 18 [l0, l1, l2] [v0] m Q ↔ AW d 98 20 [l0, l1, l2] [.int 62, v0] m Q := A_bipush hB_X6_readSign dX6_readSign_18 rfl
theorem dX6_readSign_20 : decode cX6_readSign 20 = .ok (.if_icmp .eq 15, 3) := by decide +kernel
theorem tX6_readSign_20 {d : Nat} {l0 l1 l2 : Option Value} {x y : Int32} {m : jmM} {Q : Option Value → jmM → Prop} : AW d 98 20 [l0, l1, l2] [.int y, .int x] m Q ↔ if x = y then AW d 98 35 [l0, l1, l2] [] m Q else AW d 98 23 [l0, l1, l2] [] m Q := A_icmp_eq hB_X6_readSign dX6_readSign_20 (by decide)
theorem dX6_readSign_23 : decode cX6_readSign 23 = .ok (.aload_n 0, 1) := by decide +kernel
theorem tX6_readSign_23 {d : Nat} {l1 l2 : Option Value} {x : Nat} {m : jmM} {Q : Option Value → jmM → Prop} : AW d 98 23 [some (.ref x), l1, l2] [] m Q ↔ AW d 98 24 [some (.ref x), l1, l2] [.ref x] m Q := A_aload_n hB_X6_readSign dX6_readSign_23 rfl
theorem dX6_readSign_24 : decode cX6_readSign 24 = .ok (.aload_n 0, 1) := by decide +kernel
theorem tX6_readSign_24 {d : Nat} {l1 l2 : Option Value} {v0 : Value} {x : Nat} {m : jmM} {Q : Option Value → jmM → Prop} : AW d 98 24 [some (.ref x), l1, l2] [v0] m Q ↔ AW d 98 25 [some (.ref x), l1, l2] [.ref x, v0] m Q := A_aload_n hB_X6_readSign dX6_readSign_24 rfl
theorem dX6_readSign_25 : decode cX6_readSign 25 = .ok (.getfield 29, 3) := by decide +kernel
theorem tX6_readSign_25 {d : Nat} {l0 l1 l2 : Option Value} {v1 : Value} {a : Nat} {m : jmM} {Q : Option Value → jmM → Prop} : AW d 98 25 [l0, l1, l2] [.ref a, v1] m Q ↔ (mS m a).1 = 6 ∧ AW d 98 28 [l0, l1, l2] [.int (mI m a 3), v1] m Q := A_getfield (f := fun m a => .int (mI m a 3)) hB_X6_readSign dX6_readSign_25 hO_X6_readSign fF_6_29 rfl
theorem dX6_readSign_28 : decode cX6_readSign 28 = .ok (.iconst 0, 1) := by decide +kernel
theorem tX6_readSign_28 {d : Nat} {l0 l1 l2 : Option Value} {v0 v1 : Value} {m : jmM} {Q : Option Value → jmM → Prop} : AW d 98 28 [l0, l1, l2] [v0, v1] m Q ↔ AW d 98 29 [l0, l1, l2] [.int 0, v0, v1] m Q := A_iconst hB_X6_readSign dX6_readSign_28 (by decide)
theorem dX6_readSign_29 : decode cX6_readSign 29 = .ok (.invokevirtual 69, 3) := by decide +kernel
theorem tX6_readSign_29 {d : Nat} {l0 l1 l2 : Option Value} {y0 y1 : Value} {a : Nat} {m : jmM} {Q : Option Value → jmM → Prop} : AW d 98 29 [l0, l1, l2] [y0, y1, .ref a] m Q ↔ (mS m a).1 = 6 ∧ CC d 91 [.ref a, y1, y0] m (jK d 98 32 [l0, l1, l2] [] Q) := A_callV hB_X6_readSign dX6_readSign_29 hO_X6_readSign fS_6_69 ⟨Nat.le_of_ble_eq_true rfl, Nat.le_of_ble_eq_true rfl⟩ rfl rfl rfl
theorem dX6_readSign_32 : decode cX6_readSign 32 = .ok (.bipush (-17), 2) := by decide +kernel
theorem tX6_readSign_32 {d : Nat} {l0 l1 l2 : Option Value} {m : jmM} {Q : Option Value → jmM → Prop} : AW d 98 32 [l0, l1, l2] [] m Q ↔ AW d 98 34 [l0, l1, l2] [.int (-17)] m Q := A_bipush hB_X6_readSign dX6_readSign_32 rfl
theorem dX6_readSign_34 : decode cX6_readSign 34 = .ok (.ireturn, 1) := by decide +kernel
theorem tX6_readSign_34 {d : Nat} {l0 l1 l2 : Option Value} {x : Int32} {m : jmM} {Q : Option Value → jmM → Prop} : AW d 98 34 [l0, l1, l2] [.int x] m Q ↔ Q (some (.int x)) m := A_ireturn hB_X6_readSign dX6_readSign_34 hR_X6_readSign
theorem dX6_readSign_35 : decode cX6_readSign 35 = .ok (.aload_n 0, 1) := by decide +kernel
theorem tX6_readSign_35 {d : Nat} {l1 l2 : Option Value} {x : Nat} {m : jmM} {Q : Option Value → jmM → Prop} : AW d 98 35 [some (.ref x), l1, l2] [] m Q ↔ AW d 98 36 [some (.ref x), l1, l2] [.ref x] m Q := A_aload_n hB_X6_readSign dX6_readSign_35 rfl
theorem dX6_readSign_36 : decode cX6_readSign 36 = .ok (.aload_n 0, 1) := by decide +kernel
theorem tX6_readSign_36 {d : Nat} {l1 l2 : Option Value} {v0 : Value} {x : Nat} {m : jmM} {Q : Option Value → jmM → Prop} : AW d 98 36 [some (.ref x), l1, l2] [v0] m Q ↔ AW d 98 37 [some (.ref x), l1, l2] [.ref x, v0] m Q := A_aload_n hB_X6_readSign dX6_readSign_36 rfl
theorem dX6_readSign_37 : decode cX6_readSign 37 = .ok (.getfield 29, 3) := by decide +kernel
theorem tX6_readSign_37 {d : Nat} {l0 l1 l2 : Option Value} {v1 : Value} {a : Nat} {m : jmM} {Q : Option Value → jmM → Prop} : AW d 98 37 [l0, l1, l2] [.ref a, v1] m Q ↔ (mS m a).1 = 6 ∧ AW d 98 40 [l0, l1, l2] [.int (mI m a 3), v1] m Q := A_getfield (f := fun m a => .int (mI m a 3)) hB_X6_readSign dX6_readSign_37 hO_X6_readSign fF_6_29 rfl
theorem dX6_readSign_40 : decode cX6_readSign 40 = .ok (.invokevirtual 142, 3) := by decide +kernel
theorem tX6_readSign_40 {d : Nat} {l0 l1 l2 : Option Value} {y0 : Value} {a : Nat} {m : jmM} {Q : Option Value → jmM → Prop} : AW d 98 40 [l0, l1, l2] [y0, .ref a] m Q ↔ (mS m a).1 = 6 ∧ CC d 102 [.ref a, y0] m (jK d 98 43 [l0, l1, l2] [] Q) := A_callV hB_X6_readSign dX6_readSign_40 hO_X6_readSign fS_6_142 ⟨Nat.le_of_ble_eq_true rfl, Nat.le_of_ble_eq_true rfl⟩ rfl rfl rfl
theorem dX6_readSign_43 : decode cX6_readSign 43 = .ok (.aload_n 0, 1) := by decide +kernel
theorem tX6_readSign_43 {d : Nat} {l1 l2 : Option Value} {x : Nat} {m : jmM} {Q : Option Value → jmM → Prop} : AW d 98 43 [some (.ref x), l1, l2] [] m Q ↔ AW d 98 44 [some (.ref x), l1, l2] [.ref x] m Q := A_aload_n hB_X6_readSign dX6_readSign_43 rfl
theorem dX6_readSign_44 : decode cX6_readSign 44 = .ok (.dup, 1) := by decide +kernel
theorem tX6_readSign_44 {d : Nat} {l0 l1 l2 : Option Value} {x : Nat} {m : jmM} {Q : Option Value → jmM → Prop} : AW d 98 44 [l0, l1, l2] [.ref x] m Q ↔ AW d 98 45 [l0, l1, l2] [.ref x, .ref x] m Q := A_dup_a hB_X6_readSign dX6_readSign_44
theorem dX6_readSign_45 : decode cX6_readSign 45 = .ok (.getfield 29, 3) := by decide +kernel
theorem tX6_readSign_45 {d : Nat} {l0 l1 l2 : Option Value} {v1 : Value} {a : Nat} {m : jmM} {Q : Option Value → jmM → Prop} : AW d 98 45 [l0, l1, l2] [.ref a, v1] m Q ↔ (mS m a).1 = 6 ∧ AW d 98 48 [l0, l1, l2] [.int (mI m a 3), v1] m Q := A_getfield (f := fun m a => .int (mI m a 3)) hB_X6_readSign dX6_readSign_45 hO_X6_readSign fF_6_29 rfl
theorem dX6_readSign_48 : decode cX6_readSign 48 = .ok (.iconst 1, 1) := by decide +kernel
theorem tX6_readSign_48 {d : Nat} {l0 l1 l2 : Option Value} {v0 v1 : Value} {m : jmM} {Q : Option Value → jmM → Prop} : AW d 98 48 [l0, l1, l2] [v0, v1] m Q ↔ AW d 98 49 [l0, l1, l2] [.int 1, v0, v1] m Q := A_iconst hB_X6_readSign dX6_readSign_48 (by decide)
theorem dX6_readSign_49 : decode cX6_readSign 49 = .ok (.iadd, 1) := by decide +kernel
theorem tX6_readSign_49 {d : Nat} {l0 l1 l2 : Option Value} {v2 : Value} {x y : Int32} {m : jmM} {Q : Option Value → jmM → Prop} : AW d 98 49 [l0, l1, l2] [.int y, .int x, v2] m Q ↔ AW d 98 50 [l0, l1, l2] [.int (x + y), v2] m Q := A_iadd hB_X6_readSign dX6_readSign_49
theorem dX6_readSign_50 : decode cX6_readSign 50 = .ok (.putfield 29, 3) := by decide +kernel
theorem tX6_readSign_50 {d : Nat} {l0 l1 l2 : Option Value} {x : Int32} {a : Nat} {m : jmM} {Q : Option Value → jmM → Prop} : AW d 98 50 [l0, l1, l2] [.int x, .ref a] m Q ↔ (mS m a).1 = 6 ∧ AW d 98 53 [l0, l1, l2] [] (cI m a (jup (mI m a) 3 x)) Q := A_putI hB_X6_readSign dX6_readSign_50 hO_X6_readSign fF_6_29 rfl (fun h => Bool.noConfusion h)
theorem dX6_readSign_53 : decode cX6_readSign 53 = .ok (.iload_n 1, 1) := by decide +kernel
theorem tX6_readSign_53 {d : Nat} {l0 l2 : Option Value} {x : Int32} {m : jmM} {Q : Option Value → jmM → Prop} : AW d 98 53 [l0, some (.int x), l2] [] m Q ↔ AW d 98 54 [l0, some (.int x), l2] [.int x] m Q := A_iload_n hB_X6_readSign dX6_readSign_53 rfl
theorem dX6_readSign_54 : decode cX6_readSign 54 = .ok (.bipush 61, 2) := by decide +kernel
theorem tX6_readSign_54 {d : Nat} {l0 l1 l2 : Option Value} {v0 : Value} {m : jmM} {Q : Option Value → jmM → Prop} : AW d 98 54 [l0, l1, l2] [v0] m Q ↔ AW d 98 56 [l0, l1, l2] [.int 61, v0] m Q := A_bipush hB_X6_readSign dX6_readSign_54 rfl
theorem dX6_readSign_56 : decode cX6_readSign 56 = .ok (.if_icmp .eq 23, 3) := by decide +kernel
theorem tX6_readSign_56 {d : Nat} {l0 l1 l2 : Option Value} {x y : Int32} {m : jmM} {Q : Option Value → jmM → Prop} : AW d 98 56 [l0, l1, l2] [.int y, .int x] m Q ↔ if x = y then AW d 98 79 [l0, l1, l2] [] m Q else AW d 98 59 [l0, l1, l2] [] m Q := A_icmp_eq hB_X6_readSign dX6_readSign_56 (by decide)
theorem dX6_readSign_59 : decode cX6_readSign 59 = .ok (.aload_n 0, 1) := by decide +kernel
theorem tX6_readSign_59 {d : Nat} {l1 l2 : Option Value} {x : Nat} {m : jmM} {Q : Option Value → jmM → Prop} : AW d 98 59 [some (.ref x), l1, l2] [] m Q ↔ AW d 98 60 [some (.ref x), l1, l2] [.ref x] m Q := A_aload_n hB_X6_readSign dX6_readSign_59 rfl
theorem dX6_readSign_60 : decode cX6_readSign 60 = .ok (.getfield 12, 3) := by decide +kernel
theorem tX6_readSign_60 {d : Nat} {l0 l1 l2 : Option Value} {a : Nat} {m : jmM} {Q : Option Value → jmM → Prop} : AW d 98 60 [l0, l1, l2] [.ref a] m Q ↔ (mS m a).1 = 6 ∧ AW d 98 63 [l0, l1, l2] [va_rf (mR m a 0)] m Q := A_getfield (f := fun m a => va_rf (mR m a 0)) hB_X6_readSign dX6_readSign_60 hO_X6_readSign fF_6_12 rfl
theorem dX6_readSign_63 : decode cX6_readSign 63 = .ok (.aload_n 0, 1) := by decide +kernel
theorem tX6_readSign_63 {d : Nat} {l1 l2 : Option Value} {v0 : Value} {x : Nat} {m : jmM} {Q : Option Value → jmM → Prop} : AW d 98 63 [some (.ref x), l1, l2] [v0] m Q ↔ AW d 98 64 [some (.ref x), l1, l2] [.ref x, v0] m Q := A_aload_n hB_X6_readSign dX6_readSign_63 rfl
theorem dX6_readSign_64 : decode cX6_readSign 64 = .ok (.getfield 29, 3) := by decide +kernel
theorem tX6_readSign_64 {d : Nat} {l0 l1 l2 : Option Value} {v1 : Value} {a : Nat} {m : jmM} {Q : Option Value → jmM → Prop} : AW d 98 64 [l0, l1, l2] [.ref a, v1] m Q ↔ (mS m a).1 = 6 ∧ AW d 98 67 [l0, l1, l2] [.int (mI m a 3), v1] m Q := A_getfield (f := fun m a => .int (mI m a 3)) hB_X6_readSign dX6_readSign_64 hO_X6_readSign fF_6_29 rfl
theorem dX6_readSign_67 : decode cX6_readSign 67 = .ok (.invokevirtual 145, 3) := by decide +kernel
theorem tX6_readSign_67 {d : Nat} {l0 l1 l2 : Option Value} {y0 : Value} {a : Nat} {m : jmM} {Q : Option Value → jmM → Prop} : AW d 98 67 [l0, l1, l2] [y0, .ref a] m Q ↔ (mS m a).1 = 9 ∧ CC d 134 [.ref a, y0] m (jK d 98 70 [l0, l1, l2] [] Q) := A_callV hB_X6_readSign dX6_readSign_67 hO_X6_readSign fS_6_145 ⟨Nat.le_of_ble_eq_true rfl, Nat.le_of_ble_eq_true rfl⟩ rfl rfl rfl
theorem dX6_readSign_70 : decode cX6_readSign 70 = .ok (.bipush 61, 2) := by decide +kernel
theorem tX6_readSign_70 {d : Nat} {l0 l1 l2 : Option Value} {v0 : Value} {m : jmM} {Q : Option Value → jmM → Prop} : AW d 98 70 [l0, l1, l2] [v0] m Q ↔ AW d 98 72 [l0, l1, l2] [.int 61, v0] m Q := A_bipush hB_X6_readSign dX6_readSign_70 rfl
theorem dX6_readSign_72 : decode cX6_readSign 72 = .ok (.if_icmp .ne 7, 3) := by decide +kernel
theorem tX6_readSign_72 {d : Nat} {l0 l1 l2 : Option Value} {x y : Int32} {m : jmM} {Q : Option Value → jmM → Prop} : AW d 98 72 [l0, l1, l2] [.int y, .int x] m Q ↔ if x = y then AW d 98 75 [l0, l1, l2] [] m Q else AW d 98 79 [l0, l1, l2] [] m Q := A_icmp_ne hB_X6_readSign dX6_readSign_72 (by decide)
theorem dX6_readSign_75 : decode cX6_readSign 75 = .ok (.iconst 1, 1) := by decide +kernel
theorem tX6_readSign_75 {d : Nat} {l0 l1 l2 : Option Value} {m : jmM} {Q : Option Value → jmM → Prop} : AW d 98 75 [l0, l1, l2] [] m Q ↔ AW d 98 76 [l0, l1, l2] [.int 1] m Q := A_iconst hB_X6_readSign dX6_readSign_75 (by decide)
theorem dX6_readSign_76 : decode cX6_readSign 76 = .ok (.goto 4, 3) := by decide +kernel
theorem tX6_readSign_76 {d : Nat} {l0 l1 l2 : Option Value} {v0 : Value} {m : jmM} {Q : Option Value → jmM → Prop} : AW d 98 76 [l0, l1, l2] [v0] m Q ↔ AW d 98 80 [l0, l1, l2] [v0] m Q := A_goto hB_X6_readSign dX6_readSign_76 (by decide)
theorem dX6_readSign_79 : decode cX6_readSign 79 = .ok (.iconst 0, 1) := by decide +kernel
theorem tX6_readSign_79 {d : Nat} {l0 l1 l2 : Option Value} {m : jmM} {Q : Option Value → jmM → Prop} : AW d 98 79 [l0, l1, l2] [] m Q ↔ AW d 98 80 [l0, l1, l2] [.int 0] m Q := A_iconst hB_X6_readSign dX6_readSign_79 (by decide)
theorem dX6_readSign_80 : decode cX6_readSign 80 = .ok (.istore_n 2, 1) := by decide +kernel
theorem tX6_readSign_80 {d : Nat} {l0 l1 l2 : Option Value} {x : Int32} {m : jmM} {Q : Option Value → jmM → Prop} : AW d 98 80 [l0, l1, l2] [.int x] m Q ↔ AW d 98 81 [l0, jc1 l1, some (.int x)] [] m Q := A_istore_n hB_X6_readSign dX6_readSign_80 (Nat.le_of_ble_eq_true rfl) rfl
theorem dX6_readSign_81 : decode cX6_readSign 81 = .ok (.iload_n 2, 1) := by decide +kernel
theorem tX6_readSign_81 {d : Nat} {l0 l1 : Option Value} {x : Int32} {m : jmM} {Q : Option Value → jmM → Prop} : AW d 98 81 [l0, l1, some (.int x)] [] m Q ↔ AW d 98 82 [l0, l1, some (.int x)] [.int x] m Q := A_iload_n hB_X6_readSign dX6_readSign_81 rfl
theorem dX6_readSign_82 : decode cX6_readSign 82 = .ok (.ifCond .eq 13, 3) := by decide +kernel
theorem tX6_readSign_82 {d : Nat} {l0 l1 l2 : Option Value} {x : Int32} {m : jmM} {Q : Option Value → jmM → Prop} : AW d 98 82 [l0, l1, l2] [.int x] m Q ↔ if x = 0 then AW d 98 95 [l0, l1, l2] [] m Q else AW d 98 85 [l0, l1, l2] [] m Q := A_if_eq hB_X6_readSign dX6_readSign_82 (by decide)
theorem dX6_readSign_85 : decode cX6_readSign 85 = .ok (.aload_n 0, 1) := by decide +kernel
theorem tX6_readSign_85 {d : Nat} {l1 l2 : Option Value} {x : Nat} {m : jmM} {Q : Option Value → jmM → Prop} : AW d 98 85 [some (.ref x), l1, l2] [] m Q ↔ AW d 98 86 [some (.ref x), l1, l2] [.ref x] m Q := A_aload_n hB_X6_readSign dX6_readSign_85 rfl
theorem dX6_readSign_86 : decode cX6_readSign 86 = .ok (.dup, 1) := by decide +kernel
theorem tX6_readSign_86 {d : Nat} {l0 l1 l2 : Option Value} {x : Nat} {m : jmM} {Q : Option Value → jmM → Prop} : AW d 98 86 [l0, l1, l2] [.ref x] m Q ↔ AW d 98 87 [l0, l1, l2] [.ref x, .ref x] m Q := A_dup_a hB_X6_readSign dX6_readSign_86
theorem dX6_readSign_87 : decode cX6_readSign 87 = .ok (.getfield 29, 3) := by decide +kernel
theorem tX6_readSign_87 {d : Nat} {l0 l1 l2 : Option Value} {v1 : Value} {a : Nat} {m : jmM} {Q : Option Value → jmM → Prop} : AW d 98 87 [l0, l1, l2] [.ref a, v1] m Q ↔ (mS m a).1 = 6 ∧ AW d 98 90 [l0, l1, l2] [.int (mI m a 3), v1] m Q := A_getfield (f := fun m a => .int (mI m a 3)) hB_X6_readSign dX6_readSign_87 hO_X6_readSign fF_6_29 rfl
theorem dX6_readSign_90 : decode cX6_readSign 90 = .ok (.iconst 1, 1) := by decide +kernel
theorem tX6_readSign_90 {d : Nat} {l0 l1 l2 : Option Value} {v0 v1 : Value} {m : jmM} {Q : Option Value → jmM → Prop} : AW d 98 90 [l0, l1, l2] [v0, v1] m Q ↔ AW d 98 91 [l0, l1, l2] [.int 1, v0, v1] m Q := A_iconst hB_X6_readSign dX6_readSign_90 (by decide)
theorem dX6_readSign_91 : decode cX6_readSign 91 = .ok (.iadd, 1) := by decide +kernel
theorem tX6_readSign_91 {d : Nat} {l0 l1 l2 : Option Value} {v2 : Value} {x y : Int32} {m : jmM} {Q : Option Value → jmM → Prop} : AW d 98 91 [l0, l1, l2] [.int y, .int x, v2] m Q ↔ AW d 98 92 [l0, l1, l2] [.int (x + y), v2] m Q := A_iadd hB_X6_readSign dX6_readSign_91
theorem dX6_readSign_92 : decode cX6_readSign 92 = .ok (.putfield 29, 3) := by decide +kernel
theorem tX6_readSign_92 {d : Nat} {l0 l1 l2 : Option Value} {x : Int32} {a : Nat} {m : jmM} {Q : Option Value → jmM → Prop} : AW d 98 92 [l0, l1, l2] [.int x, .ref a] m Q ↔ (mS m a).1 = 6 ∧ AW d 98 95 [l0, l1, l2] [] (cI m a (jup (mI m a) 3 x)) Q := A_putI hB_X6_readSign dX6_readSign_92 hO_X6_readSign fF_6_29 rfl (fun h => Bool.noConfusion h)
theorem dX6_readSign_95 : decode cX6_readSign 95 = .ok (.iload_n 1, 1) := by decide +kernel
theorem tX6_readSign_95 {d : Nat} {l0 l2 : Option Value} {x : Int32} {m : jmM} {Q : Option Value → jmM → Prop} : AW d 98 95 [l0, some (.int x), l2] [] m Q ↔ AW d 98 96 [l0, some (.int x), l2] [.int x] m Q := A_iload_n hB_X6_readSign dX6_readSign_95 rfl
theorem dX6_readSign_96 : decode cX6_readSign 96 = .ok (.bipush 60, 2) := by decide +kernel
theorem tX6_readSign_96 {d : Nat} {l0 l1 l2 : Option Value} {v0 : Value} {m : jmM} {Q : Option Value → jmM → Prop} : AW d 98 96 [l0, l1, l2] [v0] m Q ↔ AW d 98 98 [l0, l1, l2] [.int 60, v0] m Q := A_bipush hB_X6_readSign dX6_readSign_96 rfl
theorem dX6_readSign_98 : decode cX6_readSign 98 = .ok (.if_icmp .ne 15, 3) := by decide +kernel
theorem tX6_readSign_98 {d : Nat} {l0 l1 l2 : Option Value} {x y : Int32} {m : jmM} {Q : Option Value → jmM → Prop} : AW d 98 98 [l0, l1, l2] [.int y, .int x] m Q ↔ if x = y then AW d 98 101 [l0, l1, l2] [] m Q else AW d 98 113 [l0, l1, l2] [] m Q := A_icmp_ne hB_X6_readSign dX6_readSign_98 (by decide)
theorem dX6_readSign_101 : decode cX6_readSign 101 = .ok (.iload_n 2, 1) := by decide +kernel
theorem tX6_readSign_101 {d : Nat} {l0 l1 : Option Value} {x : Int32} {m : jmM} {Q : Option Value → jmM → Prop} : AW d 98 101 [l0, l1, some (.int x)] [] m Q ↔ AW d 98 102 [l0, l1, some (.int x)] [.int x] m Q := A_iload_n hB_X6_readSign dX6_readSign_101 rfl
theorem dX6_readSign_102 : decode cX6_readSign 102 = .ok (.ifCond .eq 8, 3) := by decide +kernel
theorem tX6_readSign_102 {d : Nat} {l0 l1 l2 : Option Value} {x : Int32} {m : jmM} {Q : Option Value → jmM → Prop} : AW d 98 102 [l0, l1, l2] [.int x] m Q ↔ if x = 0 then AW d 98 110 [l0, l1, l2] [] m Q else AW d 98 105 [l0, l1, l2] [] m Q := A_if_eq hB_X6_readSign dX6_readSign_102 (by decide)
theorem dX6_readSign_105 : decode cX6_readSign 105 = .ok (.bipush (-16), 2) := by decide +kernel
theorem tX6_readSign_105 {d : Nat} {l0 l1 l2 : Option Value} {m : jmM} {Q : Option Value → jmM → Prop} : AW d 98 105 [l0, l1, l2] [] m Q ↔ AW d 98 107 [l0, l1, l2] [.int (-16)] m Q := A_bipush hB_X6_readSign dX6_readSign_105 rfl
theorem dX6_readSign_107 : decode cX6_readSign 107 = .ok (.goto 5, 3) := by decide +kernel
theorem tX6_readSign_107 {d : Nat} {l0 l1 l2 : Option Value} {v0 : Value} {m : jmM} {Q : Option Value → jmM → Prop} : AW d 98 107 [l0, l1, l2] [v0] m Q ↔ AW d 98 112 [l0, l1, l2] [v0] m Q := A_goto hB_X6_readSign dX6_readSign_107 (by decide)
theorem dX6_readSign_110 : decode cX6_readSign 110 = .ok (.bipush (-15), 2) := by decide +kernel
theorem tX6_readSign_110 {d : Nat} {l0 l1 l2 : Option Value} {m : jmM} {Q : Option Value → jmM → Prop} : AW d 98 110 [l0, l1, l2] [] m Q ↔ AW d 98 112 [l0, l1, l2] [.int (-15)] m Q := A_bipush hB_X6_readSign dX6_readSign_110 rfl
theorem dX6_readSign_112 : decode cX6_readSign 112 = .ok (.ireturn, 1) := by decide +kernel
theorem tX6_readSign_112 {d : Nat} {l0 l1 l2 : Option Value} {x : Int32} {m : jmM} {Q : Option Value → jmM → Prop} : AW d 98 112 [l0, l1, l2] [.int x] m Q ↔ Q (some (.int x)) m := A_ireturn hB_X6_readSign dX6_readSign_112 hR_X6_readSign
theorem dX6_readSign_113 : decode cX6_readSign 113 = .ok (.iload_n 1, 1) := by decide +kernel
theorem tX6_readSign_113 {d : Nat} {l0 l2 : Option Value} {x : Int32} {m : jmM} {Q : Option Value → jmM → Prop} : AW d 98 113 [l0, some (.int x), l2] [] m Q ↔ AW d 98 114 [l0, some (.int x), l2] [.int x] m Q := A_iload_n hB_X6_readSign dX6_readSign_113 rfl
theorem dX6_readSign_114 : decode cX6_readSign 114 = .ok (.bipush 61, 2) := by decide +kernel
theorem tX6_readSign_114 {d : Nat} {l0 l1 l2 : Option Value} {v0 : Value} {m : jmM} {Q : Option Value → jmM → Prop} : AW d 98 114 [l0, l1, l2] [v0] m Q ↔ AW d 98 116 [l0, l1, l2] [.int 61, v0] m Q := A_bipush hB_X6_readSign dX6_readSign_114 rfl
theorem dX6_readSign_116 : decode cX6_readSign 116 = .ok (.if_icmp .ne 8, 3) := by decide +kernel
theorem tX6_readSign_116 {d : Nat} {l0 l1 l2 : Option Value} {x y : Int32} {m : jmM} {Q : Option Value → jmM → Prop} : AW d 98 116 [l0, l1, l2] [.int y, .int x] m Q ↔ if x = y then AW d 98 119 [l0, l1, l2] [] m Q else AW d 98 124 [l0, l1, l2] [] m Q := A_icmp_ne hB_X6_readSign dX6_readSign_116 (by decide)
theorem dX6_readSign_119 : decode cX6_readSign 119 = .ok (.bipush (-17), 2) := by decide +kernel
theorem tX6_readSign_119 {d : Nat} {l0 l1 l2 : Option Value} {m : jmM} {Q : Option Value → jmM → Prop} : AW d 98 119 [l0, l1, l2] [] m Q ↔ AW d 98 121 [l0, l1, l2] [.int (-17)] m Q := A_bipush hB_X6_readSign dX6_readSign_119 rfl
theorem dX6_readSign_121 : decode cX6_readSign 121 = .ok (.goto 14, 3) := by decide +kernel
theorem tX6_readSign_121 {d : Nat} {l0 l1 l2 : Option Value} {v0 : Value} {m : jmM} {Q : Option Value → jmM → Prop} : AW d 98 121 [l0, l1, l2] [v0] m Q ↔ AW d 98 135 [l0, l1, l2] [v0] m Q := A_goto hB_X6_readSign dX6_readSign_121 (by decide)
theorem dX6_readSign_124 : decode cX6_readSign 124 = .ok (.iload_n 2, 1) := by decide +kernel
theorem tX6_readSign_124 {d : Nat} {l0 l1 : Option Value} {x : Int32} {m : jmM} {Q : Option Value → jmM → Prop} : AW d 98 124 [l0, l1, some (.int x)] [] m Q ↔ AW d 98 125 [l0, l1, some (.int x)] [.int x] m Q := A_iload_n hB_X6_readSign dX6_readSign_124 rfl
theorem dX6_readSign_125 : decode cX6_readSign 125 = .ok (.ifCond .eq 8, 3) := by decide +kernel
theorem tX6_readSign_125 {d : Nat} {l0 l1 l2 : Option Value} {x : Int32} {m : jmM} {Q : Option Value → jmM → Prop} : AW d 98 125 [l0, l1, l2] [.int x] m Q ↔ if x = 0 then AW d 98 133 [l0, l1, l2] [] m Q else AW d 98 128 [l0, l1, l2] [] m Q := A_if_eq hB_X6_readSign dX6_readSign_125 (by decide)
theorem dX6_readSign_128 : decode cX6_readSign 128 = .ok (.bipush (-18), 2) := by decide +kernel
theorem tX6_readSign_128 {d : Nat} {l0 l1 l2 : Option Value} {m : jmM} {Q : Option Value → jmM → Prop} : AW d 98 128 [l0, l1, l2] [] m Q ↔ AW d 98 130 [l0, l1, l2] [.int (-18)] m Q := A_bipush hB_X6_readSign dX6_readSign_128 rfl
theorem dX6_readSign_130 : decode cX6_readSign 130 = .ok (.goto 5, 3) := by decide +kernel
theorem tX6_readSign_130 {d : Nat} {l0 l1 l2 : Option Value} {v0 : Value} {m : jmM} {Q : Option Value → jmM → Prop} : AW d 98 130 [l0, l1, l2] [v0] m Q ↔ AW d 98 135 [l0, l1, l2] [v0] m Q := A_goto hB_X6_readSign dX6_readSign_130 (by decide)
theorem dX6_readSign_133 : decode cX6_readSign 133 = .ok (.bipush (-19), 2) := by decide +kernel
theorem tX6_readSign_133 {d : Nat} {l0 l1 l2 : Option Value} {m : jmM} {Q : Option Value → jmM → Prop} : AW d 98 133 [l0, l1, l2] [] m Q ↔ AW d 98 135 [l0, l1, l2] [.int (-19)] m Q := A_bipush hB_X6_readSign dX6_readSign_133 rfl
theorem dX6_readSign_135 : decode cX6_readSign 135 = .ok (.ireturn, 1) := by decide +kernel
theorem tX6_readSign_135 {d : Nat} {l0 l1 l2 : Option Value} {x : Int32} {m : jmM} {Q : Option Value → jmM → Prop} : AW d 98 135 [l0, l1, l2] [.int x] m Q ↔ Q (some (.int x)) m := A_ireturn hB_X6_readSign dX6_readSign_135 hR_X6_readSign
theorem hB_X6_readSum : jB 99 = cX6_readSum := rfl
theorem hO_X6_readSum : jO 99 = 6 := rfl
theorem hR_X6_readSum : jRt 99 = none := rfl
theorem nX6_readSum (d : Nat) (x0 : Nat) (x1 : Int32) (m : jmM) (Q : Option Value → jmM → Prop) : CC (d + 1) 99 [.ref x0, .int x1] m Q ↔ AW d 99 0 [some (.ref x0), some (.int x1), none, none] [] m Q := CC_body (Nat.le_of_ble_eq_true rfl)
theorem dX6_readSum_0 : decode cX6_readSum 0 = .ok (.aload_n 0, 1) := by decide +kernel
theorem tX6_readSum_0 {d : Nat} {l1 l2 l3 : Option Value} {x : Nat} {m : jmM} {Q : Option Value → jmM → Prop} : AW d 99 0 [some (.ref x), l1, l2, l3] [] m Q ↔ AW d 99 1 [some (.ref x), l1, l2, l3] [.ref x] m Q := A_aload_n hB_X6_readSum dX6_readSum_0 rfl
theorem dX6_readSum_1 : decode cX6_readSum 1 = .ok (.iload_n 1, 1) := by decide +kernel
theorem tX6_readSum_1 {d : Nat} {l0 l2 l3 : Option Value} {v0 : Value} {x : Int32} {m : jmM} {Q : Option Value → jmM → Prop} : AW d 99 1 [l0, some (.int x), l2, l3] [v0] m Q ↔ AW d 99 2 [l0, some (.int x), l2, l3] [.int x, v0] m Q := A_iload_n hB_X6_readSum dX6_readSum_1 rfl
theorem dX6_readSum_2 : decode cX6_readSum 2 = .ok (.invokevirtual 148, 3) := by decide +kernel
theorem tX6_readSum_2 {d : Nat} {l0 l1 l2 l3 : Option Value} {y0 : Value} {a : Nat} {m : jmM} {Q : Option Value → jmM → Prop} : AW d 99 2 [l0, l1, l2, l3] [y0, .ref a] m Q ↔ (mS m a).1 = 6 ∧ CC d 100 [.ref a, y0] m (jK d 99 5 [l0, l1, l2, l3] [] Q) := A_callV hB_X6_readSum dX6_readSum_2 hO_X6_readSum fS_6_148 ⟨Nat.le_of_ble_eq_true rfl, Nat.le_of_ble_eq_true rfl⟩ rfl rfl rfl
theorem dX6_readSum_5 : decode cX6_readSum 5 = .ok (.iconst 0, 1) := by decide +kernel
theorem tX6_readSum_5 {d : Nat} {l0 l1 l2 l3 : Option Value} {m : jmM} {Q : Option Value → jmM → Prop} : AW d 99 5 [l0, l1, l2, l3] [] m Q ↔ AW d 99 6 [l0, l1, l2, l3] [.int 0] m Q := A_iconst hB_X6_readSum dX6_readSum_5 (by decide)
theorem dX6_readSum_6 : decode cX6_readSum 6 = .ok (.istore_n 2, 1) := by decide +kernel
theorem tX6_readSum_6 {d : Nat} {l0 l1 l2 l3 : Option Value} {x : Int32} {m : jmM} {Q : Option Value → jmM → Prop} : AW d 99 6 [l0, l1, l2, l3] [.int x] m Q ↔ AW d 99 7 [l0, jc1 l1, some (.int x), l3] [] m Q := A_istore_n hB_X6_readSum dX6_readSum_6 (Nat.le_of_ble_eq_true rfl) rfl
theorem dX6_readSum_7 : decode cX6_readSum 7 = .ok (.iload_n 2, 1) := by decide +kernel
theorem tX6_readSum_7 {d : Nat} {l0 l1 l3 : Option Value} {x : Int32} {m : jmM} {Q : Option Value → jmM → Prop} : AW d 99 7 [l0, l1, some (.int x), l3] [] m Q ↔ AW d 99 8 [l0, l1, some (.int x), l3] [.int x] m Q := A_iload_n hB_X6_readSum dX6_readSum_7 rfl
theorem dX6_readSum_8 : decode cX6_readSum 8 = .ok (.sipush 400, 3) := by decide +kernel
theorem tX6_readSum_8 {d : Nat} {l0 l1 l2 l3 : Option Value} {v0 : Value} {m : jmM} {Q : Option Value → jmM → Prop} : AW d 99 8 [l0, l1, l2, l3] [v0] m Q ↔ AW d 99 11 [l0, l1, l2, l3] [.int 400, v0] m Q := A_sipush hB_X6_readSum dX6_readSum_8 rfl
theorem dX6_readSum_11 : decode cX6_readSum 11 = .ok (.if_icmp .ge 69, 3) := by decide +kernel
theorem tX6_readSum_11 {d : Nat} {l0 l1 l2 l3 : Option Value} {x y : Int32} {m : jmM} {Q : Option Value → jmM → Prop} : AW d 99 11 [l0, l1, l2, l3] [.int y, .int x] m Q ↔ if y ≤ x then AW d 99 80 [l0, l1, l2, l3] [] m Q else AW d 99 14 [l0, l1, l2, l3] [] m Q := A_icmp_ge hB_X6_readSum dX6_readSum_11 (by decide)
theorem dX6_readSum_14 : decode cX6_readSum 14 = .ok (.aload_n 0, 1) := by decide +kernel
theorem tX6_readSum_14 {d : Nat} {l1 l2 l3 : Option Value} {x : Nat} {m : jmM} {Q : Option Value → jmM → Prop} : AW d 99 14 [some (.ref x), l1, l2, l3] [] m Q ↔ AW d 99 15 [some (.ref x), l1, l2, l3] [.ref x] m Q := A_aload_n hB_X6_readSum dX6_readSum_14 rfl
theorem dX6_readSum_15 : decode cX6_readSum 15 = .ok (.getfield 36, 3) := by decide +kernel
theorem tX6_readSum_15 {d : Nat} {l0 l1 l2 l3 : Option Value} {a : Nat} {m : jmM} {Q : Option Value → jmM → Prop} : AW d 99 15 [l0, l1, l2, l3] [.ref a] m Q ↔ (mS m a).1 = 6 ∧ AW d 99 18 [l0, l1, l2, l3] [.int (mI m a 5)] m Q := A_getfield (f := fun m a => .int (mI m a 5)) hB_X6_readSum dX6_readSum_15 hO_X6_readSum fF_6_36 rfl
theorem dX6_readSum_18 : decode cX6_readSum 18 = .ok (.ifCond .ne 62, 3) := by decide +kernel
theorem tX6_readSum_18 {d : Nat} {l0 l1 l2 l3 : Option Value} {x : Int32} {m : jmM} {Q : Option Value → jmM → Prop} : AW d 99 18 [l0, l1, l2, l3] [.int x] m Q ↔ if x = 0 then AW d 99 21 [l0, l1, l2, l3] [] m Q else AW d 99 80 [l0, l1, l2, l3] [] m Q := A_if_ne hB_X6_readSum dX6_readSum_18 (by decide)
theorem dX6_readSum_21 : decode cX6_readSum 21 = .ok (.aload_n 0, 1) := by decide +kernel
theorem tX6_readSum_21 {d : Nat} {l1 l2 l3 : Option Value} {x : Nat} {m : jmM} {Q : Option Value → jmM → Prop} : AW d 99 21 [some (.ref x), l1, l2, l3] [] m Q ↔ AW d 99 22 [some (.ref x), l1, l2, l3] [.ref x] m Q := A_aload_n hB_X6_readSum dX6_readSum_21 rfl
theorem dX6_readSum_22 : decode cX6_readSum 22 = .ok (.invokevirtual 52, 3) := by decide +kernel
theorem tX6_readSum_22 {d : Nat} {l0 l1 l2 l3 : Option Value} {a : Nat} {m : jmM} {Q : Option Value → jmM → Prop} : AW d 99 22 [l0, l1, l2, l3] [.ref a] m Q ↔ (mS m a).1 = 6 ∧ CC d 105 [.ref a] m (jK d 99 25 [l0, l1, l2, l3] [] Q) := A_callV hB_X6_readSum dX6_readSum_22 hO_X6_readSum fS_6_52 ⟨Nat.le_of_ble_eq_true rfl, Nat.le_of_ble_eq_true rfl⟩ rfl rfl rfl
theorem dX6_readSum_25 : decode cX6_readSum 25 = .ok (.istore_n 3, 1) := by decide +kernel
theorem tX6_readSum_25 {d : Nat} {l0 l1 l2 l3 : Option Value} {x : Int32} {m : jmM} {Q : Option Value → jmM → Prop} : AW d 99 25 [l0, l1, l2, l3] [.int x] m Q ↔ AW d 99 26 [l0, l1, jc1 l2, some (.int x)] [] m Q := A_istore_n hB_X6_readSum dX6_readSum_25 (Nat.le_of_ble_eq_true rfl) rfl
theorem dX6_readSum_26 : decode cX6_readSum 26 = .ok (.iload_n 3, 1) := by decide +kernel
theorem tX6_readSum_26 {d : Nat} {l0 l1 l2 : Option Value} {x : Int32} {m : jmM} {Q : Option Value → jmM → Prop} : AW d 99 26 [l0, l1, l2, some (.int x)] [] m Q ↔ AW d 99 27 [l0, l1, l2, some (.int x)] [.int x] m Q := A_iload_n hB_X6_readSum dX6_readSum_26 rfl
theorem dX6_readSum_27 : decode cX6_readSum 27 = .ok (.bipush 43, 2) := by decide +kernel
theorem tX6_readSum_27 {d : Nat} {l0 l1 l2 l3 : Option Value} {v0 : Value} {m : jmM} {Q : Option Value → jmM → Prop} : AW d 99 27 [l0, l1, l2, l3] [v0] m Q ↔ AW d 99 29 [l0, l1, l2, l3] [.int 43, v0] m Q := A_bipush hB_X6_readSum dX6_readSum_27 rfl
theorem dX6_readSum_29 : decode cX6_readSum 29 = .ok (.if_icmp .eq 10, 3) := by decide +kernel
theorem tX6_readSum_29 {d : Nat} {l0 l1 l2 l3 : Option Value} {x y : Int32} {m : jmM} {Q : Option Value → jmM → Prop} : AW d 99 29 [l0, l1, l2, l3] [.int y, .int x] m Q ↔ if x = y then AW d 99 39 [l0, l1, l2, l3] [] m Q else AW d 99 32 [l0, l1, l2, l3] [] m Q := A_icmp_eq hB_X6_readSum dX6_readSum_29 (by decide)
theorem dX6_readSum_32 : decode cX6_readSum 32 = .ok (.iload_n 3, 1) := by decide +kernel
theorem tX6_readSum_32 {d : Nat} {l0 l1 l2 : Option Value} {x : Int32} {m : jmM} {Q : Option Value → jmM → Prop} : AW d 99 32 [l0, l1, l2, some (.int x)] [] m Q ↔ AW d 99 33 [l0, l1, l2, some (.int x)] [.int x] m Q := A_iload_n hB_X6_readSum dX6_readSum_32 rfl
theorem dX6_readSum_33 : decode cX6_readSum 33 = .ok (.bipush 45, 2) := by decide +kernel
theorem tX6_readSum_33 {d : Nat} {l0 l1 l2 l3 : Option Value} {v0 : Value} {m : jmM} {Q : Option Value → jmM → Prop} : AW d 99 33 [l0, l1, l2, l3] [v0] m Q ↔ AW d 99 35 [l0, l1, l2, l3] [.int 45, v0] m Q := A_bipush hB_X6_readSum dX6_readSum_33 rfl
theorem dX6_readSum_35 : decode cX6_readSum 35 = .ok (.if_icmp .eq 4, 3) := by decide +kernel
theorem tX6_readSum_35 {d : Nat} {l0 l1 l2 l3 : Option Value} {x y : Int32} {m : jmM} {Q : Option Value → jmM → Prop} : AW d 99 35 [l0, l1, l2, l3] [.int y, .int x] m Q ↔ if x = y then AW d 99 39 [l0, l1, l2, l3] [] m Q else AW d 99 38 [l0, l1, l2, l3] [] m Q := A_icmp_eq hB_X6_readSum dX6_readSum_35 (by decide)
theorem dX6_readSum_38 : decode cX6_readSum 38 = .ok (.return_, 1) := by decide +kernel
theorem tX6_readSum_38 {d : Nat} {l0 l1 l2 l3 : Option Value} {m : jmM} {Q : Option Value → jmM → Prop} : AW d 99 38 [l0, l1, l2, l3] [] m Q ↔ Q none m := A_return hB_X6_readSum dX6_readSum_38 hR_X6_readSum
theorem dX6_readSum_39 : decode cX6_readSum 39 = .ok (.aload_n 0, 1) := by decide +kernel
theorem tX6_readSum_39 {d : Nat} {l1 l2 l3 : Option Value} {x : Nat} {m : jmM} {Q : Option Value → jmM → Prop} : AW d 99 39 [some (.ref x), l1, l2, l3] [] m Q ↔ AW d 99 40 [some (.ref x), l1, l2, l3] [.ref x] m Q := A_aload_n hB_X6_readSum dX6_readSum_39 rfl
theorem dX6_readSum_40 : decode cX6_readSum 40 = .ok (.dup, 1) := by decide +kernel
theorem tX6_readSum_40 {d : Nat} {l0 l1 l2 l3 : Option Value} {x : Nat} {m : jmM} {Q : Option Value → jmM → Prop} : AW d 99 40 [l0, l1, l2, l3] [.ref x] m Q ↔ AW d 99 41 [l0, l1, l2, l3] [.ref x, .ref x] m Q := A_dup_a hB_X6_readSum dX6_readSum_40
theorem dX6_readSum_41 : decode cX6_readSum 41 = .ok (.getfield 29, 3) := by decide +kernel
theorem tX6_readSum_41 {d : Nat} {l0 l1 l2 l3 : Option Value} {v1 : Value} {a : Nat} {m : jmM} {Q : Option Value → jmM → Prop} : AW d 99 41 [l0, l1, l2, l3] [.ref a, v1] m Q ↔ (mS m a).1 = 6 ∧ AW d 99 44 [l0, l1, l2, l3] [.int (mI m a 3), v1] m Q := A_getfield (f := fun m a => .int (mI m a 3)) hB_X6_readSum dX6_readSum_41 hO_X6_readSum fF_6_29 rfl
theorem dX6_readSum_44 : decode cX6_readSum 44 = .ok (.iconst 1, 1) := by decide +kernel
theorem tX6_readSum_44 {d : Nat} {l0 l1 l2 l3 : Option Value} {v0 v1 : Value} {m : jmM} {Q : Option Value → jmM → Prop} : AW d 99 44 [l0, l1, l2, l3] [v0, v1] m Q ↔ AW d 99 45 [l0, l1, l2, l3] [.int 1, v0, v1] m Q := A_iconst hB_X6_readSum dX6_readSum_44 (by decide)
theorem dX6_readSum_45 : decode cX6_readSum 45 = .ok (.iadd, 1) := by decide +kernel
theorem tX6_readSum_45 {d : Nat} {l0 l1 l2 l3 : Option Value} {v2 : Value} {x y : Int32} {m : jmM} {Q : Option Value → jmM → Prop} : AW d 99 45 [l0, l1, l2, l3] [.int y, .int x, v2] m Q ↔ AW d 99 46 [l0, l1, l2, l3] [.int (x + y), v2] m Q := A_iadd hB_X6_readSum dX6_readSum_45
theorem dX6_readSum_46 : decode cX6_readSum 46 = .ok (.putfield 29, 3) := by decide +kernel
theorem tX6_readSum_46 {d : Nat} {l0 l1 l2 l3 : Option Value} {x : Int32} {a : Nat} {m : jmM} {Q : Option Value → jmM → Prop} : AW d 99 46 [l0, l1, l2, l3] [.int x, .ref a] m Q ↔ (mS m a).1 = 6 ∧ AW d 99 49 [l0, l1, l2, l3] [] (cI m a (jup (mI m a) 3 x)) Q := A_putI hB_X6_readSum dX6_readSum_46 hO_X6_readSum fF_6_29 rfl (fun h => Bool.noConfusion h)
theorem dX6_readSum_49 : decode cX6_readSum 49 = .ok (.aload_n 0, 1) := by decide +kernel
theorem tX6_readSum_49 {d : Nat} {l1 l2 l3 : Option Value} {x : Nat} {m : jmM} {Q : Option Value → jmM → Prop} : AW d 99 49 [some (.ref x), l1, l2, l3] [] m Q ↔ AW d 99 50 [some (.ref x), l1, l2, l3] [.ref x] m Q := A_aload_n hB_X6_readSum dX6_readSum_49 rfl
theorem dX6_readSum_50 : decode cX6_readSum 50 = .ok (.iload_n 1, 1) := by decide +kernel
theorem tX6_readSum_50 {d : Nat} {l0 l2 l3 : Option Value} {v0 : Value} {x : Int32} {m : jmM} {Q : Option Value → jmM → Prop} : AW d 99 50 [l0, some (.int x), l2, l3] [v0] m Q ↔ AW d 99 51 [l0, some (.int x), l2, l3] [.int x, v0] m Q := A_iload_n hB_X6_readSum dX6_readSum_50 rfl
theorem dX6_readSum_51 : decode cX6_readSum 51 = .ok (.invokevirtual 148, 3) := by decide +kernel
theorem tX6_readSum_51 {d : Nat} {l0 l1 l2 l3 : Option Value} {y0 : Value} {a : Nat} {m : jmM} {Q : Option Value → jmM → Prop} : AW d 99 51 [l0, l1, l2, l3] [y0, .ref a] m Q ↔ (mS m a).1 = 6 ∧ CC d 100 [.ref a, y0] m (jK d 99 54 [l0, l1, l2, l3] [] Q) := A_callV hB_X6_readSum dX6_readSum_51 hO_X6_readSum fS_6_148 ⟨Nat.le_of_ble_eq_true rfl, Nat.le_of_ble_eq_true rfl⟩ rfl rfl rfl
theorem dX6_readSum_54 : decode cX6_readSum 54 = .ok (.aload_n 0, 1) := by decide +kernel
theorem tX6_readSum_54 {d : Nat} {l1 l2 l3 : Option Value} {x : Nat} {m : jmM} {Q : Option Value → jmM → Prop} : AW d 99 54 [some (.ref x), l1, l2, l3] [] m Q ↔ AW d 99 55 [some (.ref x), l1, l2, l3] [.ref x] m Q := A_aload_n hB_X6_readSum dX6_readSum_54 rfl
theorem dX6_readSum_55 : decode cX6_readSum 55 = .ok (.getfield 21, 3) := by decide +kernel
theorem tX6_readSum_55 {d : Nat} {l0 l1 l2 l3 : Option Value} {a : Nat} {m : jmM} {Q : Option Value → jmM → Prop} : AW d 99 55 [l0, l1, l2, l3] [.ref a] m Q ↔ (mS m a).1 = 6 ∧ AW d 99 58 [l0, l1, l2, l3] [va_rf (mR m a 1)] m Q := A_getfield (f := fun m a => va_rf (mR m a 1)) hB_X6_readSum dX6_readSum_55 hO_X6_readSum fF_6_21 rfl
theorem dX6_readSum_58 : decode cX6_readSum 58 = .ok (.iload_n 3, 1) := by decide +kernel
theorem tX6_readSum_58 {d : Nat} {l0 l1 l2 : Option Value} {v0 : Value} {x : Int32} {m : jmM} {Q : Option Value → jmM → Prop} : AW d 99 58 [l0, l1, l2, some (.int x)] [v0] m Q ↔ AW d 99 59 [l0, l1, l2, some (.int x)] [.int x, v0] m Q := A_iload_n hB_X6_readSum dX6_readSum_58 rfl
theorem dX6_readSum_59 : decode cX6_readSum 59 = .ok (.bipush 43, 2) := by decide +kernel
theorem tX6_readSum_59 {d : Nat} {l0 l1 l2 l3 : Option Value} {v0 v1 : Value} {m : jmM} {Q : Option Value → jmM → Prop} : AW d 99 59 [l0, l1, l2, l3] [v0, v1] m Q ↔ AW d 99 61 [l0, l1, l2, l3] [.int 43, v0, v1] m Q := A_bipush hB_X6_readSum dX6_readSum_59 rfl
theorem dX6_readSum_61 : decode cX6_readSum 61 = .ok (.if_icmp .ne 8, 3) := by decide +kernel
theorem tX6_readSum_61 {d : Nat} {l0 l1 l2 l3 : Option Value} {v2 : Value} {x y : Int32} {m : jmM} {Q : Option Value → jmM → Prop} : AW d 99 61 [l0, l1, l2, l3] [.int y, .int x, v2] m Q ↔ if x = y then AW d 99 64 [l0, l1, l2, l3] [v2] m Q else AW d 99 69 [l0, l1, l2, l3] [v2] m Q := A_icmp_ne hB_X6_readSum dX6_readSum_61 (by decide)
theorem dX6_readSum_64 : decode cX6_readSum 64 = .ok (.bipush (-11), 2) := by decide +kernel
theorem tX6_readSum_64 {d : Nat} {l0 l1 l2 l3 : Option Value} {v0 : Value} {m : jmM} {Q : Option Value → jmM → Prop} : AW d 99 64 [l0, l1, l2, l3] [v0] m Q ↔ AW d 99 66 [l0, l1, l2, l3] [.int (-11), v0] m Q := A_bipush hB_X6_readSum dX6_readSum_64 rfl
theorem dX6_readSum_66 : decode cX6_readSum 66 = .ok (.goto 5, 3) := by decide +kernel
theorem tX6_readSum_66 {d : Nat} {l0 l1 l2 l3 : Option Value} {v0 v1 : Value} {m : jmM} {Q : Option Value → jmM → Prop} : AW d 99 66 [l0, l1, l2, l3] [v0, v1] m Q ↔ AW d 99 71 [l0, l1, l2, l3] [v0, v1] m Q := A_goto hB_X6_readSum dX6_readSum_66 (by decide)
theorem dX6_readSum_69 : decode cX6_readSum 69 = .ok (.bipush (-12), 2) := by decide +kernel
theorem tX6_readSum_69 {d : Nat} {l0 l1 l2 l3 : Option Value} {v0 : Value} {m : jmM} {Q : Option Value → jmM → Prop} : AW d 99 69 [l0, l1, l2, l3] [v0] m Q ↔ AW d 99 71 [l0, l1, l2, l3] [.int (-12), v0] m Q := A_bipush hB_X6_readSum dX6_readSum_69 rfl
theorem dX6_readSum_71 : decode cX6_readSum 71 = .ok (.invokevirtual 126, 3) := by decide +kernel
theorem tX6_readSum_71 {d : Nat} {l0 l1 l2 l3 : Option Value} {y0 : Value} {a : Nat} {m : jmM} {Q : Option Value → jmM → Prop} : AW d 99 71 [l0, l1, l2, l3] [y0, .ref a] m Q ↔ (mS m a).1 = 3 ∧ CC d 27 [.ref a, y0] m (jK d 99 74 [l0, l1, l2, l3] [] Q) := A_callV hB_X6_readSum dX6_readSum_71 hO_X6_readSum fS_6_126 ⟨Nat.le_of_ble_eq_true rfl, Nat.le_of_ble_eq_true rfl⟩ rfl rfl rfl
theorem dX6_readSum_74 : decode cX6_readSum 74 = .ok (.iinc 2 1, 3) := by decide +kernel
theorem tX6_readSum_74 {d : Nat} {l0 l1 l3 : Option Value} {x : Int32} {m : jmM} {Q : Option Value → jmM → Prop} : AW d 99 74 [l0, l1, some (.int x), l3] [] m Q ↔ AW d 99 77 [l0, jc1 l1, some (.int (x + 1)), l3] [] m Q := A_iinc hB_X6_readSum dX6_readSum_74 rfl (Nat.le_of_ble_eq_true rfl) (v := 1) (by decide) rfl
theorem dX6_readSum_77 : decode cX6_readSum 77 = .ok (.goto (-70), 3) := by decide +kernel
theorem tX6_readSum_77 {d : Nat} {l0 l1 l2 l3 : Option Value} {m : jmM} {Q : Option Value → jmM → Prop} : AW d 99 77 [l0, l1, l2, l3] [] m Q ↔ AW d 99 7 [l0, l1, l2, l3] [] m Q := A_goto hB_X6_readSum dX6_readSum_77 (by decide)
theorem dX6_readSum_80 : decode cX6_readSum 80 = .ok (.return_, 1) := by decide +kernel
theorem tX6_readSum_80 {d : Nat} {l0 l1 l2 l3 : Option Value} {m : jmM} {Q : Option Value → jmM → Prop} : AW d 99 80 [l0, l1, l2, l3] [] m Q ↔ Q none m := A_return hB_X6_readSum dX6_readSum_80 hR_X6_readSum
theorem hB_X6_readTerm : jB 100 = cX6_readTerm := rfl
theorem hO_X6_readTerm : jO 100 = 6 := rfl
theorem hR_X6_readTerm : jRt 100 = none := rfl
theorem nX6_readTerm (d : Nat) (x0 : Nat) (x1 : Int32) (m : jmM) (Q : Option Value → jmM → Prop) : CC (d + 1) 100 [.ref x0, .int x1] m Q ↔ AW d 100 0 [some (.ref x0), some (.int x1), none, none] [] m Q := CC_body (Nat.le_of_ble_eq_true rfl)
theorem dX6_readTerm_0 : decode cX6_readTerm 0 = .ok (.aload_n 0, 1) := by decide +kernel
theorem tX6_readTerm_0 {d : Nat} {l1 l2 l3 : Option Value} {x : Nat} {m : jmM} {Q : Option Value → jmM → Prop} : AW d 100 0 [some (.ref x), l1, l2, l3] [] m Q ↔ AW d 100 1 [some (.ref x), l1, l2, l3] [.ref x] m Q := A_aload_n hB_X6_readTerm dX6_readTerm_0 rfl
theorem dX6_readTerm_1 : decode cX6_readTerm 1 = .ok (.iload_n 1, 1) := by decide +kernel
theorem tX6_readTerm_1 {d : Nat} {l0 l2 l3 : Option Value} {v0 : Value} {x : Int32} {m : jmM} {Q : Option Value → jmM → Prop} : AW d 100 1 [l0, some (.int x), l2, l3] [v0] m Q ↔ AW d 100 2 [l0, some (.int x), l2, l3] [.int x, v0] m Q := A_iload_n hB_X6_readTerm dX6_readTerm_1 rfl
theorem dX6_readTerm_2 : decode cX6_readTerm 2 = .ok (.invokevirtual 151, 3) := by decide +kernel
theorem tX6_readTerm_2 {d : Nat} {l0 l1 l2 l3 : Option Value} {y0 : Value} {a : Nat} {m : jmM} {Q : Option Value → jmM → Prop} : AW d 100 2 [l0, l1, l2, l3] [y0, .ref a] m Q ↔ (mS m a).1 = 6 ∧ CC d 101 [.ref a, y0] m (jK d 100 5 [l0, l1, l2, l3] [] Q) := A_callV hB_X6_readTerm dX6_readTerm_2 hO_X6_readTerm fS_6_151 ⟨Nat.le_of_ble_eq_true rfl, Nat.le_of_ble_eq_true rfl⟩ rfl rfl rfl
theorem dX6_readTerm_5 : decode cX6_readTerm 5 = .ok (.iconst 0, 1) := by decide +kernel
theorem tX6_readTerm_5 {d : Nat} {l0 l1 l2 l3 : Option Value} {m : jmM} {Q : Option Value → jmM → Prop} : AW d 100 5 [l0, l1, l2, l3] [] m Q ↔ AW d 100 6 [l0, l1, l2, l3] [.int 0] m Q := A_iconst hB_X6_readTerm dX6_readTerm_5 (by decide)
theorem dX6_readTerm_6 : decode cX6_readTerm 6 = .ok (.istore_n 2, 1) := by decide +kernel
theorem tX6_readTerm_6 {d : Nat} {l0 l1 l2 l3 : Option Value} {x : Int32} {m : jmM} {Q : Option Value → jmM → Prop} : AW d 100 6 [l0, l1, l2, l3] [.int x] m Q ↔ AW d 100 7 [l0, jc1 l1, some (.int x), l3] [] m Q := A_istore_n hB_X6_readTerm dX6_readTerm_6 (Nat.le_of_ble_eq_true rfl) rfl
theorem dX6_readTerm_7 : decode cX6_readTerm 7 = .ok (.iload_n 2, 1) := by decide +kernel
theorem tX6_readTerm_7 {d : Nat} {l0 l1 l3 : Option Value} {x : Int32} {m : jmM} {Q : Option Value → jmM → Prop} : AW d 100 7 [l0, l1, some (.int x), l3] [] m Q ↔ AW d 100 8 [l0, l1, some (.int x), l3] [.int x] m Q := A_iload_n hB_X6_readTerm dX6_readTerm_7 rfl
theorem dX6_readTerm_8 : decode cX6_readTerm 8 = .ok (.sipush 400, 3) := by decide +kernel
theorem tX6_readTerm_8 {d : Nat} {l0 l1 l2 l3 : Option Value} {v0 : Value} {m : jmM} {Q : Option Value → jmM → Prop} : AW d 100 8 [l0, l1, l2, l3] [v0] m Q ↔ AW d 100 11 [l0, l1, l2, l3] [.int 400, v0] m Q := A_sipush hB_X6_readTerm dX6_readTerm_8 rfl
theorem dX6_readTerm_11 : decode cX6_readTerm 11 = .ok (.if_icmp .ge 69, 3) := by decide +kernel
theorem tX6_readTerm_11 {d : Nat} {l0 l1 l2 l3 : Option Value} {x y : Int32} {m : jmM} {Q : Option Value → jmM → Prop} : AW d 100 11 [l0, l1, l2, l3] [.int y, .int x] m Q ↔ if y ≤ x then AW d 100 80 [l0, l1, l2, l3] [] m Q else AW d 100 14 [l0, l1, l2, l3] [] m Q := A_icmp_ge hB_X6_readTerm dX6_readTerm_11 (by decide)
theorem dX6_readTerm_14 : decode cX6_readTerm 14 = .ok (.aload_n 0, 1) := by decide +kernel
theorem tX6_readTerm_14 {d : Nat} {l1 l2 l3 : Option Value} {x : Nat} {m : jmM} {Q : Option Value → jmM → Prop} : AW d 100 14 [some (.ref x), l1, l2, l3] [] m Q ↔ AW d 100 15 [some (.ref x), l1, l2, l3] [.ref x] m Q := A_aload_n hB_X6_readTerm dX6_readTerm_14 rfl
theorem dX6_readTerm_15 : decode cX6_readTerm 15 = .ok (.getfield 36, 3) := by decide +kernel
theorem tX6_readTerm_15 {d : Nat} {l0 l1 l2 l3 : Option Value} {a : Nat} {m : jmM} {Q : Option Value → jmM → Prop} : AW d 100 15 [l0, l1, l2, l3] [.ref a] m Q ↔ (mS m a).1 = 6 ∧ AW d 100 18 [l0, l1, l2, l3] [.int (mI m a 5)] m Q := A_getfield (f := fun m a => .int (mI m a 5)) hB_X6_readTerm dX6_readTerm_15 hO_X6_readTerm fF_6_36 rfl
theorem dX6_readTerm_18 : decode cX6_readTerm 18 = .ok (.ifCond .ne 62, 3) := by decide +kernel
theorem tX6_readTerm_18 {d : Nat} {l0 l1 l2 l3 : Option Value} {x : Int32} {m : jmM} {Q : Option Value → jmM → Prop} : AW d 100 18 [l0, l1, l2, l3] [.int x] m Q ↔ if x = 0 then AW d 100 21 [l0, l1, l2, l3] [] m Q else AW d 100 80 [l0, l1, l2, l3] [] m Q := A_if_ne hB_X6_readTerm dX6_readTerm_18 (by decide)
theorem dX6_readTerm_21 : decode cX6_readTerm 21 = .ok (.aload_n 0, 1) := by decide +kernel
theorem tX6_readTerm_21 {d : Nat} {l1 l2 l3 : Option Value} {x : Nat} {m : jmM} {Q : Option Value → jmM → Prop} : AW d 100 21 [some (.ref x), l1, l2, l3] [] m Q ↔ AW d 100 22 [some (.ref x), l1, l2, l3] [.ref x] m Q := A_aload_n hB_X6_readTerm dX6_readTerm_21 rfl
theorem dX6_readTerm_22 : decode cX6_readTerm 22 = .ok (.invokevirtual 52, 3) := by decide +kernel
theorem tX6_readTerm_22 {d : Nat} {l0 l1 l2 l3 : Option Value} {a : Nat} {m : jmM} {Q : Option Value → jmM → Prop} : AW d 100 22 [l0, l1, l2, l3] [.ref a] m Q ↔ (mS m a).1 = 6 ∧ CC d 105 [.ref a] m (jK d 100 25 [l0, l1, l2, l3] [] Q) := A_callV hB_X6_readTerm dX6_readTerm_22 hO_X6_readTerm fS_6_52 ⟨Nat.le_of_ble_eq_true rfl, Nat.le_of_ble_eq_true rfl⟩ rfl rfl rfl
theorem dX6_readTerm_25 : decode cX6_readTerm 25 = .ok (.istore_n 3, 1) := by decide +kernel
theorem tX6_readTerm_25 {d : Nat} {l0 l1 l2 l3 : Option Value} {x : Int32} {m : jmM} {Q : Option Value → jmM → Prop} : AW d 100 25 [l0, l1, l2, l3] [.int x] m Q ↔ AW d 100 26 [l0, l1, jc1 l2, some (.int x)] [] m Q := A_istore_n hB_X6_readTerm dX6_readTerm_25 (Nat.le_of_ble_eq_true rfl) rfl
theorem dX6_readTerm_26 : decode cX6_readTerm 26 = .ok (.iload_n 3, 1) := by decide +kernel
theorem tX6_readTerm_26 {d : Nat} {l0 l1 l2 : Option Value} {x : Int32} {m : jmM} {Q : Option Value → jmM → Prop} : AW d 100 26 [l0, l1, l2, some (.int x)] [] m Q ↔ AW d 100 27 [l0, l1, l2, some (.int x)] [.int x] m Q := A_iload_n hB_X6_readTerm dX6_readTerm_26 rfl
theorem dX6_readTerm_27 : decode cX6_readTerm 27 = .ok (.bipush 42, 2) := by decide +kernel
theorem tX6_readTerm_27 {d : Nat} {l0 l1 l2 l3 : Option Value} {v0 : Value} {m : jmM} {Q : Option Value → jmM → Prop} : AW d 100 27 [l0, l1, l2, l3] [v0] m Q ↔ AW d 100 29 [l0, l1, l2, l3] [.int 42, v0] m Q := A_bipush hB_X6_readTerm dX6_readTerm_27 rfl
theorem dX6_readTerm_29 : decode cX6_readTerm 29 = .ok (.if_icmp .eq 10, 3) := by decide +kernel
theorem tX6_readTerm_29 {d : Nat} {l0 l1 l2 l3 : Option Value} {x y : Int32} {m : jmM} {Q : Option Value → jmM → Prop} : AW d 100 29 [l0, l1, l2, l3] [.int y, .int x] m Q ↔ if x = y then AW d 100 39 [l0, l1, l2, l3] [] m Q else AW d 100 32 [l0, l1, l2, l3] [] m Q := A_icmp_eq hB_X6_readTerm dX6_readTerm_29 (by decide)
theorem dX6_readTerm_32 : decode cX6_readTerm 32 = .ok (.iload_n 3, 1) := by decide +kernel
theorem tX6_readTerm_32 {d : Nat} {l0 l1 l2 : Option Value} {x : Int32} {m : jmM} {Q : Option Value → jmM → Prop} : AW d 100 32 [l0, l1, l2, some (.int x)] [] m Q ↔ AW d 100 33 [l0, l1, l2, some (.int x)] [.int x] m Q := A_iload_n hB_X6_readTerm dX6_readTerm_32 rfl
theorem dX6_readTerm_33 : decode cX6_readTerm 33 = .ok (.bipush 47, 2) := by decide +kernel
theorem tX6_readTerm_33 {d : Nat} {l0 l1 l2 l3 : Option Value} {v0 : Value} {m : jmM} {Q : Option Value → jmM → Prop} : AW d 100 33 [l0, l1, l2, l3] [v0] m Q ↔ AW d 100 35 [l0, l1, l2, l3] [.int 47, v0] m Q := A_bipush hB_X6_readTerm dX6_readTerm_33 rfl
theorem dX6_readTerm_35 : decode cX6_readTerm 35 = .ok (.if_icmp .eq 4, 3) := by decide +kernel
theorem tX6_readTerm_35 {d : Nat} {l0 l1 l2 l3 : Option Value} {x y : Int32} {m : jmM} {Q : Option Value → jmM → Prop} : AW d 100 35 [l0, l1, l2, l3] [.int y, .int x] m Q ↔ if x = y then AW d 100 39 [l0, l1, l2, l3] [] m Q else AW d 100 38 [l0, l1, l2, l3] [] m Q := A_icmp_eq hB_X6_readTerm dX6_readTerm_35 (by decide)
theorem dX6_readTerm_38 : decode cX6_readTerm 38 = .ok (.return_, 1) := by decide +kernel
theorem tX6_readTerm_38 {d : Nat} {l0 l1 l2 l3 : Option Value} {m : jmM} {Q : Option Value → jmM → Prop} : AW d 100 38 [l0, l1, l2, l3] [] m Q ↔ Q none m := A_return hB_X6_readTerm dX6_readTerm_38 hR_X6_readTerm
theorem dX6_readTerm_39 : decode cX6_readTerm 39 = .ok (.aload_n 0, 1) := by decide +kernel
theorem tX6_readTerm_39 {d : Nat} {l1 l2 l3 : Option Value} {x : Nat} {m : jmM} {Q : Option Value → jmM → Prop} : AW d 100 39 [some (.ref x), l1, l2, l3] [] m Q ↔ AW d 100 40 [some (.ref x), l1, l2, l3] [.ref x] m Q := A_aload_n hB_X6_readTerm dX6_readTerm_39 rfl
theorem dX6_readTerm_40 : decode cX6_readTerm 40 = .ok (.dup, 1) := by decide +kernel
theorem tX6_readTerm_40 {d : Nat} {l0 l1 l2 l3 : Option Value} {x : Nat} {m : jmM} {Q : Option Value → jmM → Prop} : AW d 100 40 [l0, l1, l2, l3] [.ref x] m Q ↔ AW d 100 41 [l0, l1, l2, l3] [.ref x, .ref x] m Q := A_dup_a hB_X6_readTerm dX6_readTerm_40
theorem dX6_readTerm_41 : decode cX6_readTerm 41 = .ok (.getfield 29, 3) := by decide +kernel
theorem tX6_readTerm_41 {d : Nat} {l0 l1 l2 l3 : Option Value} {v1 : Value} {a : Nat} {m : jmM} {Q : Option Value → jmM → Prop} : AW d 100 41 [l0, l1, l2, l3] [.ref a, v1] m Q ↔ (mS m a).1 = 6 ∧ AW d 100 44 [l0, l1, l2, l3] [.int (mI m a 3), v1] m Q := A_getfield (f := fun m a => .int (mI m a 3)) hB_X6_readTerm dX6_readTerm_41 hO_X6_readTerm fF_6_29 rfl
theorem dX6_readTerm_44 : decode cX6_readTerm 44 = .ok (.iconst 1, 1) := by decide +kernel
theorem tX6_readTerm_44 {d : Nat} {l0 l1 l2 l3 : Option Value} {v0 v1 : Value} {m : jmM} {Q : Option Value → jmM → Prop} : AW d 100 44 [l0, l1, l2, l3] [v0, v1] m Q ↔ AW d 100 45 [l0, l1, l2, l3] [.int 1, v0, v1] m Q := A_iconst hB_X6_readTerm dX6_readTerm_44 (by decide)
theorem dX6_readTerm_45 : decode cX6_readTerm 45 = .ok (.iadd, 1) := by decide +kernel
theorem tX6_readTerm_45 {d : Nat} {l0 l1 l2 l3 : Option Value} {v2 : Value} {x y : Int32} {m : jmM} {Q : Option Value → jmM → Prop} : AW d 100 45 [l0, l1, l2, l3] [.int y, .int x, v2] m Q ↔ AW d 100 46 [l0, l1, l2, l3] [.int (x + y), v2] m Q := A_iadd hB_X6_readTerm dX6_readTerm_45
theorem dX6_readTerm_46 : decode cX6_readTerm 46 = .ok (.putfield 29, 3) := by decide +kernel
theorem tX6_readTerm_46 {d : Nat} {l0 l1 l2 l3 : Option Value} {x : Int32} {a : Nat} {m : jmM} {Q : Option Value → jmM → Prop} : AW d 100 46 [l0, l1, l2, l3] [.int x, .ref a] m Q ↔ (mS m a).1 = 6 ∧ AW d 100 49 [l0, l1, l2, l3] [] (cI m a (jup (mI m a) 3 x)) Q := A_putI hB_X6_readTerm dX6_readTerm_46 hO_X6_readTerm fF_6_29 rfl (fun h => Bool.noConfusion h)
theorem dX6_readTerm_49 : decode cX6_readTerm 49 = .ok (.aload_n 0, 1) := by decide +kernel
theorem tX6_readTerm_49 {d : Nat} {l1 l2 l3 : Option Value} {x : Nat} {m : jmM} {Q : Option Value → jmM → Prop} : AW d 100 49 [some (.ref x), l1, l2, l3] [] m Q ↔ AW d 100 50 [some (.ref x), l1, l2, l3] [.ref x] m Q := A_aload_n hB_X6_readTerm dX6_readTerm_49 rfl
theorem dX6_readTerm_50 : decode cX6_readTerm 50 = .ok (.iload_n 1, 1) := by decide +kernel
theorem tX6_readTerm_50 {d : Nat} {l0 l2 l3 : Option Value} {v0 : Value} {x : Int32} {m : jmM} {Q : Option Value → jmM → Prop} : AW d 100 50 [l0, some (.int x), l2, l3] [v0] m Q ↔ AW d 100 51 [l0, some (.int x), l2, l3] [.int x, v0] m Q := A_iload_n hB_X6_readTerm dX6_readTerm_50 rfl
theorem dX6_readTerm_51 : decode cX6_readTerm 51 = .ok (.invokevirtual 151, 3) := by decide +kernel
theorem tX6_readTerm_51 {d : Nat} {l0 l1 l2 l3 : Option Value} {y0 : Value} {a : Nat} {m : jmM} {Q : Option Value → jmM → Prop} : AW d 100 51 [l0, l1, l2, l3] [y0, .ref a] m Q ↔ (mS m a).1 = 6 ∧ CC d 101 [.ref a, y0] m (jK d 100 54 [l0, l1, l2, l3] [] Q) := A_callV hB_X6_readTerm dX6_readTerm_51 hO_X6_readTerm fS_6_151 ⟨Nat.le_of_ble_eq_true rfl, Nat.le_of_ble_eq_true rfl⟩ rfl rfl rfl
theorem dX6_readTerm_54 : decode cX6_readTerm 54 = .ok (.aload_n 0, 1) := by decide +kernel
theorem tX6_readTerm_54 {d : Nat} {l1 l2 l3 : Option Value} {x : Nat} {m : jmM} {Q : Option Value → jmM → Prop} : AW d 100 54 [some (.ref x), l1, l2, l3] [] m Q ↔ AW d 100 55 [some (.ref x), l1, l2, l3] [.ref x] m Q := A_aload_n hB_X6_readTerm dX6_readTerm_54 rfl
theorem dX6_readTerm_55 : decode cX6_readTerm 55 = .ok (.getfield 21, 3) := by decide +kernel
theorem tX6_readTerm_55 {d : Nat} {l0 l1 l2 l3 : Option Value} {a : Nat} {m : jmM} {Q : Option Value → jmM → Prop} : AW d 100 55 [l0, l1, l2, l3] [.ref a] m Q ↔ (mS m a).1 = 6 ∧ AW d 100 58 [l0, l1, l2, l3] [va_rf (mR m a 1)] m Q := A_getfield (f := fun m a => va_rf (mR m a 1)) hB_X6_readTerm dX6_readTerm_55 hO_X6_readTerm fF_6_21 rfl
theorem dX6_readTerm_58 : decode cX6_readTerm 58 = .ok (.iload_n 3, 1) := by decide +kernel
theorem tX6_readTerm_58 {d : Nat} {l0 l1 l2 : Option Value} {v0 : Value} {x : Int32} {m : jmM} {Q : Option Value → jmM → Prop} : AW d 100 58 [l0, l1, l2, some (.int x)] [v0] m Q ↔ AW d 100 59 [l0, l1, l2, some (.int x)] [.int x, v0] m Q := A_iload_n hB_X6_readTerm dX6_readTerm_58 rfl
theorem dX6_readTerm_59 : decode cX6_readTerm 59 = .ok (.bipush 42, 2) := by decide +kernel
theorem tX6_readTerm_59 {d : Nat} {l0 l1 l2 l3 : Option Value} {v0 v1 : Value} {m : jmM} {Q : Option Value → jmM → Prop} : AW d 100 59 [l0, l1, l2, l3] [v0, v1] m Q ↔ AW d 100 61 [l0, l1, l2, l3] [.int 42, v0, v1] m Q := A_bipush hB_X6_readTerm dX6_readTerm_59 rfl
theorem dX6_readTerm_61 : decode cX6_readTerm 61 = .ok (.if_icmp .ne 8, 3) := by decide +kernel
theorem tX6_readTerm_61 {d : Nat} {l0 l1 l2 l3 : Option Value} {v2 : Value} {x y : Int32} {m : jmM} {Q : Option Value → jmM → Prop} : AW d 100 61 [l0, l1, l2, l3] [.int y, .int x, v2] m Q ↔ if x = y then AW d 100 64 [l0, l1, l2, l3] [v2] m Q else AW d 100 69 [l0, l1, l2, l3] [v2] m Q := A_icmp_ne hB_X6_readTerm dX6_readTerm_61 (by decide)
theorem dX6_readTerm_64 : decode cX6_readTerm 64 = .ok (.bipush (-13), 2) := by decide +kernel
theorem tX6_readTerm_64 {d : Nat} {l0 l1 l2 l3 : Option Value} {v0 : Value} {m : jmM} {Q : Option Value → jmM → Prop} : AW d 100 64 [l0, l1, l2, l3] [v0] m Q ↔ AW d 100 66 [l0, l1, l2, l3] [.int (-13), v0] m Q := A_bipush hB_X6_readTerm dX6_readTerm_64 rfl
theorem dX6_readTerm_66 : decode cX6_readTerm 66 = .ok (.goto 5, 3) := by decide +kernel
theorem tX6_readTerm_66 {d : Nat} {l0 l1 l2 l3 : Option Value} {v0 v1 : Value} {m : jmM} {Q : Option Value → jmM → Prop} : AW d 100 66 [l0, l1, l2, l3] [v0, v1] m Q ↔ AW d 100 71 [l0, l1, l2, l3] [v0, v1] m Q := A_goto hB_X6_readTerm dX6_readTerm_66 (by decide)
theorem dX6_readTerm_69 : decode cX6_readTerm 69 = .ok (.bipush (-14), 2) := by decide +kernel
theorem tX6_readTerm_69 {d : Nat} {l0 l1 l2 l3 : Option Value} {v0 : Value} {m : jmM} {Q : Option Value → jmM → Prop} : AW d 100 69 [l0, l1, l2, l3] [v0] m Q ↔ AW d 100 71 [l0, l1, l2, l3] [.int (-14), v0] m Q := A_bipush hB_X6_readTerm dX6_readTerm_69 rfl
theorem dX6_readTerm_71 : decode cX6_readTerm 71 = .ok (.invokevirtual 126, 3) := by decide +kernel
theorem tX6_readTerm_71 {d : Nat} {l0 l1 l2 l3 : Option Value} {y0 : Value} {a : Nat} {m : jmM} {Q : Option Value → jmM → Prop} : AW d 100 71 [l0, l1, l2, l3] [y0, .ref a] m Q ↔ (mS m a).1 = 3 ∧ CC d 27 [.ref a, y0] m (jK d 100 74 [l0, l1, l2, l3] [] Q) := A_callV hB_X6_readTerm dX6_readTerm_71 hO_X6_readTerm fS_6_126 ⟨Nat.le_of_ble_eq_true rfl, Nat.le_of_ble_eq_true rfl⟩ rfl rfl rfl
theorem dX6_readTerm_74 : decode cX6_readTerm 74 = .ok (.iinc 2 1, 3) := by decide +kernel
theorem tX6_readTerm_74 {d : Nat} {l0 l1 l3 : Option Value} {x : Int32} {m : jmM} {Q : Option Value → jmM → Prop} : AW d 100 74 [l0, l1, some (.int x), l3] [] m Q ↔ AW d 100 77 [l0, jc1 l1, some (.int (x + 1)), l3] [] m Q := A_iinc hB_X6_readTerm dX6_readTerm_74 rfl (Nat.le_of_ble_eq_true rfl) (v := 1) (by decide) rfl
theorem dX6_readTerm_77 : decode cX6_readTerm 77 = .ok (.goto (-70), 3) := by decide +kernel
theorem tX6_readTerm_77 {d : Nat} {l0 l1 l2 l3 : Option Value} {m : jmM} {Q : Option Value → jmM → Prop} : AW d 100 77 [l0, l1, l2, l3] [] m Q ↔ AW d 100 7 [l0, l1, l2, l3] [] m Q := A_goto hB_X6_readTerm dX6_readTerm_77 (by decide)
theorem dX6_readTerm_80 : decode cX6_readTerm 80 = .ok (.return_, 1) := by decide +kernel
theorem tX6_readTerm_80 {d : Nat} {l0 l1 l2 l3 : Option Value} {m : jmM} {Q : Option Value → jmM → Prop} : AW d 100 80 [l0, l1, l2, l3] [] m Q ↔ Q none m := A_return hB_X6_readTerm dX6_readTerm_80 hR_X6_readTerm
theorem hB_X6_readValue : jB 101 = cX6_readValue := rfl
theorem hO_X6_readValue : jO 101 = 6 := rfl
theorem hR_X6_readValue : jRt 101 = none := rfl
theorem nX6_readValue (d : Nat) (x0 : Nat) (x1 : Int32) (m : jmM) (Q : Option Value → jmM → Prop) : CC (d + 1) 101 [.ref x0, .int x1] m Q ↔ AW d 101 0 [some (.ref x0), some (.int x1), none, none] [] m Q := CC_body (Nat.le_of_ble_eq_true rfl)
theorem dX6_readValue_0 : decode cX6_readValue 0 = .ok (.aload_n 0, 1) := by decide +kernel
theorem tX6_readValue_0 {d : Nat} {l1 l2 l3 : Option Value} {x : Nat} {m : jmM} {Q : Option Value → jmM → Prop} : AW d 101 0 [some (.ref x), l1, l2, l3] [] m Q ↔ AW d 101 1 [some (.ref x), l1, l2, l3] [.ref x] m Q := A_aload_n hB_X6_readValue dX6_readValue_0 rfl
theorem dX6_readValue_1 : decode cX6_readValue 1 = .ok (.invokevirtual 52, 3) := by decide +kernel
theorem tX6_readValue_1 {d : Nat} {l0 l1 l2 l3 : Option Value} {a : Nat} {m : jmM} {Q : Option Value → jmM → Prop} : AW d 101 1 [l0, l1, l2, l3] [.ref a] m Q ↔ (mS m a).1 = 6 ∧ CC d 105 [.ref a] m (jK d 101 4 [l0, l1, l2, l3] [] Q) := A_callV hB_X6_readValue dX6_readValue_1 hO_X6_readValue fS_6_52 ⟨Nat.le_of_ble_eq_true rfl, Nat.le_of_ble_eq_true rfl⟩ rfl rfl rfl
theorem dX6_readValue_4 : decode cX6_readValue 4 = .ok (.istore_n 2, 1) := by decide +kernel
theorem tX6_readValue_4 {d : Nat} {l0 l1 l2 l3 : Option Value} {x : Int32} {m : jmM} {Q : Option Value → jmM → Prop} : AW d 101 4 [l0, l1, l2, l3] [.int x] m Q ↔ AW d 101 5 [l0, jc1 l1, some (.int x), l3] [] m Q := A_istore_n hB_X6_readValue dX6_readValue_4 (Nat.le_of_ble_eq_true rfl) rfl
theorem dX6_readValue_5 : decode cX6_readValue 5 = .ok (.aload_n 0, 1) := by decide +kernel
theorem tX6_readValue_5 {d : Nat} {l1 l2 l3 : Option Value} {x : Nat} {m : jmM} {Q : Option Value → jmM → Prop} : AW d 101 5 [some (.ref x), l1, l2, l3] [] m Q ↔ AW d 101 6 [some (.ref x), l1, l2, l3] [.ref x] m Q := A_aload_n hB_X6_readValue dX6_readValue_5 rfl
theorem dX6_readValue_6 : decode cX6_readValue 6 = .ok (.getfield 29, 3) := by decide +kernel
theorem tX6_readValue_6 {d : Nat} {l0 l1 l2 l3 : Option Value} {a : Nat} {m : jmM} {Q : Option Value → jmM → Prop} : AW d 101 6 [l0, l1, l2, l3] [.ref a] m Q ↔ (mS m a).1 = 6 ∧ AW d 101 9 [l0, l1, l2, l3] [.int (mI m a 3)] m Q := A_getfield (f := fun m a => .int (mI m a 3)) hB_X6_readValue dX6_readValue_6 hO_X6_readValue fF_6_29 rfl
theorem dX6_readValue_9 : decode cX6_readValue 9 = .ok (.istore_n 3, 1) := by decide +kernel
theorem tX6_readValue_9 {d : Nat} {l0 l1 l2 l3 : Option Value} {x : Int32} {m : jmM} {Q : Option Value → jmM → Prop} : AW d 101 9 [l0, l1, l2, l3] [.int x] m Q ↔ AW d 101 10 [l0, l1, jc1 l2, some (.int x)] [] m Q := A_istore_n hB_X6_readValue dX6_readValue_9 (Nat.le_of_ble_eq_true rfl) rfl
theorem dX6_readValue_10 : decode cX6_readValue 10 = .ok (.iload_n 2, 1) := by decide +kernel
theorem tX6_readValue_10 {d : Nat} {l0 l1 l3 : Option Value} {x : Int32} {m : jmM} {Q : Option Value → jmM → Prop} : AW d 101 10 [l0, l1, some (.int x), l3] [] m Q ↔ AW d 101 11 [l0, l1, some (.int x), l3] [.int x] m Q := A_iload_n hB_X6_readValue dX6_readValue_10 rfl
theorem dX6_readValue_11 : decode cX6_readValue 11 = .ok (.bipush 40, 2) := by decide +kernel
theorem tX6_readValue_11 {d : Nat} {l0 l1 l2 l3 : Option Value} {v0 : Value} {m : jmM} {Q : Option Value → jmM → Prop} : AW d 101 11 [l0, l1, l2, l3] [v0] m Q ↔ AW d 101 13 [l0, l1, l2, l3] [.int 40, v0] m Q := A_bipush hB_X6_readValue dX6_readValue_11 rfl
theorem dX6_readValue_13 : decode cX6_readValue 13 = .ok (.if_icmp .ne 37, 3) := by decide +kernel
theorem tX6_readValue_13 {d : Nat} {l0 l1 l2 l3 : Option Value} {x y : Int32} {m : jmM} {Q : Option Value → jmM → Prop} : AW d 101 13 [l0, l1, l2, l3] [.int y, .int x] m Q ↔ if x = y then AW d 101 16 [l0, l1, l2, l3] [] m Q else AW d 101 50 [l0, l1, l2, l3] [] m Q := A_icmp_ne hB_X6_readValue dX6_readValue_13 (by decide)
theorem dX6_readValue_16 : decode cX6_readValue 16 = .ok (.aload_n 0, 1) := by decide +kernel
theorem tX6_readValue_16 {d : Nat} {l1 l2 l3 : Option Value} {x : Nat} {m : jmM} {Q : Option Value → jmM → Prop} : AW d 101 16 [some (.ref x), l1, l2, l3] [] m Q ↔ AW d 101 17 [some (.ref x), l1, l2, l3] [.ref x] m Q := A_aload_n hB_X6_readValue dX6_readValue_16 rfl
theorem dX6_readValue_17 : decode cX6_readValue 17 = .ok (.iload_n 1, 1) := by decide +kernel
theorem tX6_readValue_17 {d : Nat} {l0 l2 l3 : Option Value} {v0 : Value} {x : Int32} {m : jmM} {Q : Option Value → jmM → Prop} : AW d 101 17 [l0, some (.int x), l2, l3] [v0] m Q ↔ AW d 101 18 [l0, some (.int x), l2, l3] [.int x, v0] m Q := A_iload_n hB_X6_readValue dX6_readValue_17 rfl
theorem dX6_readValue_18 : decode cX6_readValue 18 = .ok (.invokevirtual 136, 3) := by decide +kernel
theorem tX6_readValue_18 {d : Nat} {l0 l1 l2 l3 : Option Value} {y0 : Value} {a : Nat} {m : jmM} {Q : Option Value → jmM → Prop} : AW d 101 18 [l0, l1, l2, l3] [y0, .ref a] m Q ↔ (mS m a).1 = 6 ∧ CC d 97 [.ref a, y0] m (jK d 101 21 [l0, l1, l2, l3] [] Q) := A_callV hB_X6_readValue dX6_readValue_18 hO_X6_readValue fS_6_136 ⟨Nat.le_of_ble_eq_true rfl, Nat.le_of_ble_eq_true rfl⟩ rfl rfl rfl
theorem dX6_readValue_21 : decode cX6_readValue 21 = .ok (.ifCond .eq 83, 3) := by decide +kernel
theorem tX6_readValue_21 {d : Nat} {l0 l1 l2 l3 : Option Value} {x : Int32} {m : jmM} {Q : Option Value → jmM → Prop} : AW d 101 21 [l0, l1, l2, l3] [.int x] m Q ↔ if x = 0 then AW d 101 104 [l0, l1, l2, l3] [] m Q else AW d 101 24 [l0, l1, l2, l3] [] m Q := A_if_eq hB_X6_readValue dX6_readValue_21 (by decide)
theorem dX6_readValue_24 : decode cX6_readValue 24 = .ok (.aload_n 0, 1) := by decide +kernel
theorem tX6_readValue_24 {d : Nat} {l1 l2 l3 : Option Value} {x : Nat} {m : jmM} {Q : Option Value → jmM → Prop} : AW d 101 24 [some (.ref x), l1, l2, l3] [] m Q ↔ AW d 101 25 [some (.ref x), l1, l2, l3] [.ref x] m Q := A_aload_n hB_X6_readValue dX6_readValue_24 rfl
theorem dX6_readValue_25 : decode cX6_readValue 25 = .ok (.dup, 1) := by decide +kernel
theorem tX6_readValue_25 {d : Nat} {l0 l1 l2 l3 : Option Value} {x : Nat} {m : jmM} {Q : Option Value → jmM → Prop} : AW d 101 25 [l0, l1, l2, l3] [.ref x] m Q ↔ AW d 101 26 [l0, l1, l2, l3] [.ref x, .ref x] m Q := A_dup_a hB_X6_readValue dX6_readValue_25
theorem dX6_readValue_26 : decode cX6_readValue 26 = .ok (.getfield 29, 3) := by decide +kernel
theorem tX6_readValue_26 {d : Nat} {l0 l1 l2 l3 : Option Value} {v1 : Value} {a : Nat} {m : jmM} {Q : Option Value → jmM → Prop} : AW d 101 26 [l0, l1, l2, l3] [.ref a, v1] m Q ↔ (mS m a).1 = 6 ∧ AW d 101 29 [l0, l1, l2, l3] [.int (mI m a 3), v1] m Q := A_getfield (f := fun m a => .int (mI m a 3)) hB_X6_readValue dX6_readValue_26 hO_X6_readValue fF_6_29 rfl
theorem dX6_readValue_29 : decode cX6_readValue 29 = .ok (.iconst 1, 1) := by decide +kernel
theorem tX6_readValue_29 {d : Nat} {l0 l1 l2 l3 : Option Value} {v0 v1 : Value} {m : jmM} {Q : Option Value → jmM → Prop} : AW d 101 29 [l0, l1, l2, l3] [v0, v1] m Q ↔ AW d 101 30 [l0, l1, l2, l3] [.int 1, v0, v1] m Q := A_iconst hB_X6_readValue dX6_readValue_29 (by decide)
theorem dX6_readValue_30 : decode cX6_readValue 30 = .ok (.iadd, 1) := by decide +kernel
theorem tX6_readValue_30 {d : Nat} {l0 l1 l2 l3 : Option Value} {v2 : Value} {x y : Int32} {m : jmM} {Q : Option Value → jmM → Prop} : AW d 101 30 [l0, l1, l2, l3] [.int y, .int x, v2] m Q ↔ AW d 101 31 [l0, l1, l2, l3] [.int (x + y), v2] m Q := A_iadd hB_X6_readValue dX6_readValue_30
theorem dX6_readValue_31 : decode cX6_readValue 31 = .ok (.putfield 29, 3) := by decide +kernel
theorem tX6_readValue_31 {d : Nat} {l0 l1 l2 l3 : Option Value} {x : Int32} {a : Nat} {m : jmM} {Q : Option Value → jmM → Prop} : AW d 101 31 [l0, l1, l2, l3] [.int x, .ref a] m Q ↔ (mS m a).1 = 6 ∧ AW d 101 34 [l0, l1, l2, l3] [] (cI m a (jup (mI m a) 3 x)) Q := A_putI hB_X6_readValue dX6_readValue_31 hO_X6_readValue fF_6_29 rfl (fun h => Bool.noConfusion h)
theorem dX6_readValue_34 : decode cX6_readValue 34 = .ok (.aload_n 0, 1) := by decide +kernel
theorem tX6_readValue_34 {d : Nat} {l1 l2 l3 : Option Value} {x : Nat} {m : jmM} {Q : Option Value → jmM → Prop} : AW d 101 34 [some (.ref x), l1, l2, l3] [] m Q ↔ AW d 101 35 [some (.ref x), l1, l2, l3] [.ref x] m Q := A_aload_n hB_X6_readValue dX6_readValue_34 rfl
theorem dX6_readValue_35 : decode cX6_readValue 35 = .ok (.iload_n 1, 1) := by decide +kernel
theorem tX6_readValue_35 {d : Nat} {l0 l2 l3 : Option Value} {v0 : Value} {x : Int32} {m : jmM} {Q : Option Value → jmM → Prop} : AW d 101 35 [l0, some (.int x), l2, l3] [v0] m Q ↔ AW d 101 36 [l0, some (.int x), l2, l3] [.int x, v0] m Q := A_iload_n hB_X6_readValue dX6_readValue_35 rfl
theorem dX6_readValue_36 : decode cX6_readValue 36 = .ok (.iconst 1, 1) := by decide +kernel
theorem tX6_readValue_36 {d : Nat} {l0 l1 l2 l3 : Option Value} {v0 v1 : Value} {m : jmM} {Q : Option Value → jmM → Prop} : AW d 101 36 [l0, l1, l2, l3] [v0, v1] m Q ↔ AW d 101 37 [l0, l1, l2, l3] [.int 1, v0, v1] m Q := A_iconst hB_X6_readValue dX6_readValue_36 (by decide)
theorem dX6_readValue_37 : decode cX6_readValue 37 = .ok (.iadd, 1) := by decide +kernel
theorem tX6_readValue_37 {d : Nat} {l0 l1 l2 l3 : Option Value} {v2 : Value} {x y : Int32} {m : jmM} {Q : Option Value → jmM → Prop} : AW d 101 37 [l0, l1, l2, l3] [.int y, .int x, v2] m Q ↔ AW d 101 38 [l0, l1, l2, l3] [.int (x + y), v2] m Q := A_iadd hB_X6_readValue dX6_readValue_37
theorem dX6_readValue_38 : decode cX6_readValue 38 = .ok (.invokevirtual 90, 3) := by decide +kernel
theorem tX6_readValue_38 {d : Nat} {l0 l1 l2 l3 : Option Value} {y0 : Value} {a : Nat} {m : jmM} {Q : Option Value → jmM → Prop} : AW d 101 38 [l0, l1, l2, l3] [y0, .ref a] m Q ↔ (mS m a).1 = 6 ∧ CC d 99 [.ref a, y0] m (jK d 101 41 [l0, l1, l2, l3] [] Q) := A_callV hB_X6_readValue dX6_readValue_38 hO_X6_readValue fS_6_90 ⟨Nat.le_of_ble_eq_true rfl, Nat.le_of_ble_eq_true rfl⟩ rfl rfl rfl
theorem dX6_readValue_41 : decode cX6_readValue 41 = .ok (.aload_n 0, 1) := by decide +kernel
theorem tX6_readValue_41 {d : Nat} {l1 l2 l3 : Option Value} {x : Nat} {m : jmM} {Q : Option Value → jmM → Prop} : AW d 101 41 [some (.ref x), l1, l2, l3] [] m Q ↔ AW d 101 42 [some (.ref x), l1, l2, l3] [.ref x] m Q := A_aload_n hB_X6_readValue dX6_readValue_41 rfl
theorem dX6_readValue_42 : decode cX6_readValue 42 = .ok (.bipush 41, 2) := by decide +kernel
theorem tX6_readValue_42 {d : Nat} {l0 l1 l2 l3 : Option Value} {v0 : Value} {m : jmM} {Q : Option Value → jmM → Prop} : AW d 101 42 [l0, l1, l2, l3] [v0] m Q ↔ AW d 101 44 [l0, l1, l2, l3] [.int 41, v0] m Q := A_bipush hB_X6_readValue dX6_readValue_42 rfl
theorem dX6_readValue_44 : decode cX6_readValue 44 = .ok (.invokevirtual 56, 3) := by decide +kernel
theorem tX6_readValue_44 {d : Nat} {l0 l1 l2 l3 : Option Value} {y0 : Value} {a : Nat} {m : jmM} {Q : Option Value → jmM → Prop} : AW d 101 44 [l0, l1, l2, l3] [y0, .ref a] m Q ↔ (mS m a).1 = 6 ∧ CC d 106 [.ref a, y0] m (jK d 101 47 [l0, l1, l2, l3] [] Q) := A_callV hB_X6_readValue dX6_readValue_44 hO_X6_readValue fS_6_56 ⟨Nat.le_of_ble_eq_true rfl, Nat.le_of_ble_eq_true rfl⟩ rfl rfl rfl
theorem dX6_readValue_47 : decode cX6_readValue 47 = .ok (.goto 57, 3) := by decide +kernel
theorem tX6_readValue_47 {d : Nat} {l0 l1 l2 l3 : Option Value} {m : jmM} {Q : Option Value → jmM → Prop} : AW d 101 47 [l0, l1, l2, l3] [] m Q ↔ AW d 101 104 [l0, l1, l2, l3] [] m Q := A_goto hB_X6_readValue dX6_readValue_47 (by decide)
theorem dX6_readValue_50 : decode cX6_readValue 50 = .ok (.iload_n 2, 1) := by decide +kernel
theorem tX6_readValue_50 {d : Nat} {l0 l1 l3 : Option Value} {x : Int32} {m : jmM} {Q : Option Value → jmM → Prop} : AW d 101 50 [l0, l1, some (.int x), l3] [] m Q ↔ AW d 101 51 [l0, l1, some (.int x), l3] [.int x] m Q := A_iload_n hB_X6_readValue dX6_readValue_50 rfl
theorem dX6_readValue_51 : decode cX6_readValue 51 = .ok (.invokestatic 154, 3) := by decide +kernel
theorem tX6_readValue_51 {d : Nat} {l0 l1 l2 l3 : Option Value} {y0 : Value} {m : jmM} {Q : Option Value → jmM → Prop} : AW d 101 51 [l0, l1, l2, l3] [y0] m Q ↔ CC d 111 [y0] m (jK d 101 54 [l0, l1, l2, l3] [] Q) := A_callS0 hB_X6_readValue dX6_readValue_51 hO_X6_readValue fS_6_154 ⟨Nat.le_of_ble_eq_true rfl, Nat.le_of_ble_eq_true rfl⟩ rfl rfl
theorem dX6_readValue_54 : decode cX6_readValue 54 = .ok (.ifCond .eq 24, 3) := by decide +kernel
theorem tX6_readValue_54 {d : Nat} {l0 l1 l2 l3 : Option Value} {x : Int32} {m : jmM} {Q : Option Value → jmM → Prop} : AW d 101 54 [l0, l1, l2, l3] [.int x] m Q ↔ if x = 0 then AW d 101 78 [l0, l1, l2, l3] [] m Q else AW d 101 57 [l0, l1, l2, l3] [] m Q := A_if_eq hB_X6_readValue dX6_readValue_54 (by decide)
theorem dX6_readValue_57 : decode cX6_readValue 57 = .ok (.aload_n 0, 1) := by decide +kernel
theorem tX6_readValue_57 {d : Nat} {l1 l2 l3 : Option Value} {x : Nat} {m : jmM} {Q : Option Value → jmM → Prop} : AW d 101 57 [some (.ref x), l1, l2, l3] [] m Q ↔ AW d 101 58 [some (.ref x), l1, l2, l3] [.ref x] m Q := A_aload_n hB_X6_readValue dX6_readValue_57 rfl
theorem dX6_readValue_58 : decode cX6_readValue 58 = .ok (.getfield 21, 3) := by decide +kernel
theorem tX6_readValue_58 {d : Nat} {l0 l1 l2 l3 : Option Value} {a : Nat} {m : jmM} {Q : Option Value → jmM → Prop} : AW d 101 58 [l0, l1, l2, l3] [.ref a] m Q ↔ (mS m a).1 = 6 ∧ AW d 101 61 [l0, l1, l2, l3] [va_rf (mR m a 1)] m Q := A_getfield (f := fun m a => va_rf (mR m a 1)) hB_X6_readValue dX6_readValue_58 hO_X6_readValue fF_6_21 rfl
theorem dX6_readValue_61 : decode cX6_readValue 61 = .ok (.aload_n 0, 1) := by decide +kernel
theorem tX6_readValue_61 {d : Nat} {l1 l2 l3 : Option Value} {v0 : Value} {x : Nat} {m : jmM} {Q : Option Value → jmM → Prop} : AW d 101 61 [some (.ref x), l1, l2, l3] [v0] m Q ↔ AW d 101 62 [some (.ref x), l1, l2, l3] [.ref x, v0] m Q := A_aload_n hB_X6_readValue dX6_readValue_61 rfl
theorem dX6_readValue_62 : decode cX6_readValue 62 = .ok (.ldc 157, 2) := by decide +kernel
theorem tX6_readValue_62 {d : Nat} {l0 l1 l2 l3 : Option Value} {v0 v1 : Value} {m : jmM} {Q : Option Value → jmM → Prop} : AW d 101 62 [l0, l1, l2, l3] [v0, v1] m Q ↔ AW d 101 64 [l0, l1, l2, l3] [.int 99999, v0, v1] m Q := A_ldc hB_X6_readValue dX6_readValue_62 hO_X6_readValue fL_6_157
theorem dX6_readValue_64 : decode cX6_readValue 64 = .ok (.invokevirtual 80, 3) := by decide +kernel
theorem tX6_readValue_64 {d : Nat} {l0 l1 l2 l3 : Option Value} {v2 : Value} {y0 : Value} {a : Nat} {m : jmM} {Q : Option Value → jmM → Prop} : AW d 101 64 [l0, l1, l2, l3] [y0, .ref a, v2] m Q ↔ (mS m a).1 = 6 ∧ CC d 103 [.ref a, y0] m (jK d 101 67 [l0, l1, l2, l3] [v2] Q) := A_callV hB_X6_readValue dX6_readValue_64 hO_X6_readValue fS_6_80 ⟨Nat.le_of_ble_eq_true rfl, Nat.le_of_ble_eq_true rfl⟩ rfl rfl rfl
theorem dX6_readValue_67 : decode cX6_readValue 67 = .ok (.invokevirtual 126, 3) := by decide +kernel
theorem tX6_readValue_67 {d : Nat} {l0 l1 l2 l3 : Option Value} {y0 : Value} {a : Nat} {m : jmM} {Q : Option Value → jmM → Prop} : AW d 101 67 [l0, l1, l2, l3] [y0, .ref a] m Q ↔ (mS m a).1 = 3 ∧ CC d 27 [.ref a, y0] m (jK d 101 70 [l0, l1, l2, l3] [] Q) := A_callV hB_X6_readValue dX6_readValue_67 hO_X6_readValue fS_6_126 ⟨Nat.le_of_ble_eq_true rfl, Nat.le_of_ble_eq_true rfl⟩ rfl rfl rfl
theorem dX6_readValue_70 : decode cX6_readValue 70 = .ok (.aload_n 0, 1) := by decide +kernel
theorem tX6_readValue_70 {d : Nat} {l1 l2 l3 : Option Value} {x : Nat} {m : jmM} {Q : Option Value → jmM → Prop} : AW d 101 70 [some (.ref x), l1, l2, l3] [] m Q ↔ AW d 101 71 [some (.ref x), l1, l2, l3] [.ref x] m Q := A_aload_n hB_X6_readValue dX6_readValue_70 rfl
theorem dX6_readValue_71 : decode cX6_readValue 71 = .ok (.iload_n 3, 1) := by decide +kernel
theorem tX6_readValue_71 {d : Nat} {l0 l1 l2 : Option Value} {v0 : Value} {x : Int32} {m : jmM} {Q : Option Value → jmM → Prop} : AW d 101 71 [l0, l1, l2, some (.int x)] [v0] m Q ↔ AW d 101 72 [l0, l1, l2, some (.int x)] [.int x, v0] m Q := A_iload_n hB_X6_readValue dX6_readValue_71 rfl
theorem dX6_readValue_72 : decode cX6_readValue 72 = .ok (.invokevirtual 142, 3) := by decide +kernel
theorem tX6_readValue_72 {d : Nat} {l0 l1 l2 l3 : Option Value} {y0 : Value} {a : Nat} {m : jmM} {Q : Option Value → jmM → Prop} : AW d 101 72 [l0, l1, l2, l3] [y0, .ref a] m Q ↔ (mS m a).1 = 6 ∧ CC d 102 [.ref a, y0] m (jK d 101 75 [l0, l1, l2, l3] [] Q) := A_callV hB_X6_readValue dX6_readValue_72 hO_X6_readValue fS_6_142 ⟨Nat.le_of_ble_eq_true rfl, Nat.le_of_ble_eq_true rfl⟩ rfl rfl rfl
theorem dX6_readValue_75 : decode cX6_readValue 75 = .ok (.goto 29, 3) := by decide +kernel
theorem tX6_readValue_75 {d : Nat} {l0 l1 l2 l3 : Option Value} {m : jmM} {Q : Option Value → jmM → Prop} : AW d 101 75 [l0, l1, l2, l3] [] m Q ↔ AW d 101 104 [l0, l1, l2, l3] [] m Q := A_goto hB_X6_readValue dX6_readValue_75 (by decide)
theorem dX6_readValue_78 : decode cX6_readValue 78 = .ok (.aload_n 0, 1) := by decide +kernel
theorem tX6_readValue_78 {d : Nat} {l1 l2 l3 : Option Value} {x : Nat} {m : jmM} {Q : Option Value → jmM → Prop} : AW d 101 78 [some (.ref x), l1, l2, l3] [] m Q ↔ AW d 101 79 [some (.ref x), l1, l2, l3] [.ref x] m Q := A_aload_n hB_X6_readValue dX6_readValue_78 rfl
theorem dX6_readValue_79 : decode cX6_readValue 79 = .ok (.getfield 21, 3) := by decide +kernel
theorem tX6_readValue_79 {d : Nat} {l0 l1 l2 l3 : Option Value} {a : Nat} {m : jmM} {Q : Option Value → jmM → Prop} : AW d 101 79 [l0, l1, l2, l3] [.ref a] m Q ↔ (mS m a).1 = 6 ∧ AW d 101 82 [l0, l1, l2, l3] [va_rf (mR m a 1)] m Q := A_getfield (f := fun m a => va_rf (mR m a 1)) hB_X6_readValue dX6_readValue_79 hO_X6_readValue fF_6_21 rfl
theorem dX6_readValue_82 : decode cX6_readValue 82 = .ok (.iconst (-1), 1) := by decide +kernel
theorem tX6_readValue_82 {d : Nat} {l0 l1 l2 l3 : Option Value} {v0 : Value} {m : jmM} {Q : Option Value → jmM → Prop} : AW d 101 82 [l0, l1, l2, l3] [v0] m Q ↔ AW d 101 83 [l0, l1, l2, l3] [.int (-1), v0] m Q := A_iconst hB_X6_readValue dX6_readValue_82 (by decide)
theorem dX6_readValue_83 : decode cX6_readValue 83 = .ok (.aload_n 0, 1) := by decide +kernel
theorem tX6_readValue_83 {d : Nat} {l1 l2 l3 : Option Value} {v0 v1 : Value} {x : Nat} {m : jmM} {Q : Option Value → jmM → Prop} : AW d 101 83 [some (.ref x), l1, l2, l3] [v0, v1] m Q ↔ AW d 101 84 [some (.ref x), l1, l2, l3] [.ref x, v0, v1] m Q := A_aload_n hB_X6_readValue dX6_readValue_83 rfl
theorem dX6_readValue_84 : decode cX6_readValue 84 = .ok (.invokevirtual 158, 3) := by decide +kernel
theorem tX6_readValue_84 {d : Nat} {l0 l1 l2 l3 : Option Value} {v1 v2 : Value} {a : Nat} {m : jmM} {Q : Option Value → jmM → Prop} : AW d 101 84 [l0, l1, l2, l3] [.ref a, v1, v2] m Q ↔ (mS m a).1 = 6 ∧ CC d 104 [.ref a] m (jK d 101 87 [l0, l1, l2, l3] [v1, v2] Q) := A_callV hB_X6_readValue dX6_readValue_84 hO_X6_readValue fS_6_158 ⟨Nat.le_of_ble_eq_true rfl, Nat.le_of_ble_eq_true rfl⟩ rfl rfl rfl
theorem dX6_readValue_87 : decode cX6_readValue 87 = .ok (.isub, 1) := by decide +kernel
theorem tX6_readValue_87 {d : Nat} {l0 l1 l2 l3 : Option Value} {v2 : Value} {x y : Int32} {m : jmM} {Q : Option Value → jmM → Prop} : AW d 101 87 [l0, l1, l2, l3] [.int y, .int x, v2] m Q ↔ AW d 101 88 [l0, l1, l2, l3] [.int (x - y), v2] m Q := A_isub hB_X6_readValue dX6_readValue_87
theorem dX6_readValue_88 : decode cX6_readValue 88 = .ok (.invokevirtual 126, 3) := by decide +kernel
theorem tX6_readValue_88 {d : Nat} {l0 l1 l2 l3 : Option Value} {y0 : Value} {a : Nat} {m : jmM} {Q : Option Value → jmM → Prop} : AW d 101 88 [l0, l1, l2, l3] [y0, .ref a] m Q ↔ (mS m a).1 = 3 ∧ CC d 27 [.ref a, y0] m (jK d 101 91 [l0, l1, l2, l3] [] Q) := A_callV hB_X6_readValue dX6_readValue_88 hO_X6_readValue fS_6_126 ⟨Nat.le_of_ble_eq_true rfl, Nat.le_of_ble_eq_true rfl⟩ rfl rfl rfl
theorem dX6_readValue_91 : decode cX6_readValue 91 = .ok (.aload_n 0, 1) := by decide +kernel
theorem tX6_readValue_91 {d : Nat} {l1 l2 l3 : Option Value} {x : Nat} {m : jmM} {Q : Option Value → jmM → Prop} : AW d 101 91 [some (.ref x), l1, l2, l3] [] m Q ↔ AW d 101 92 [some (.ref x), l1, l2, l3] [.ref x] m Q := A_aload_n hB_X6_readValue dX6_readValue_91 rfl
theorem dX6_readValue_92 : decode cX6_readValue 92 = .ok (.aload_n 0, 1) := by decide +kernel
theorem tX6_readValue_92 {d : Nat} {l1 l2 l3 : Option Value} {v0 : Value} {x : Nat} {m : jmM} {Q : Option Value → jmM → Prop} : AW d 101 92 [some (.ref x), l1, l2, l3] [v0] m Q ↔ AW d 101 93 [some (.ref x), l1, l2, l3] [.ref x, v0] m Q := A_aload_n hB_X6_readValue dX6_readValue_92 rfl
theorem dX6_readValue_93 : decode cX6_readValue 93 = .ok (.invokevirtual 77, 3) := by decide +kernel
theorem tX6_readValue_93 {d : Nat} {l0 l1 l2 l3 : Option Value} {v1 : Value} {a : Nat} {m : jmM} {Q : Option Value → jmM → Prop} : AW d 101 93 [l0, l1, l2, l3] [.ref a, v1] m Q ↔ (mS m a).1 = 6 ∧ CC d 109 [.ref a] m (jK d 101 96 [l0, l1, l2, l3] [v1] Q) := A_callV hB_X6_readValue dX6_readValue_93 hO_X6_readValue fS_6_77 ⟨Nat.le_of_ble_eq_true rfl, Nat.le_of_ble_eq_true rfl⟩ rfl rfl rfl
theorem dX6_readValue_96 : decode cX6_readValue 96 = .ok (.putfield 29, 3) := by decide +kernel
theorem tX6_readValue_96 {d : Nat} {l0 l1 l2 l3 : Option Value} {x : Int32} {a : Nat} {m : jmM} {Q : Option Value → jmM → Prop} : AW d 101 96 [l0, l1, l2, l3] [.int x, .ref a] m Q ↔ (mS m a).1 = 6 ∧ AW d 101 99 [l0, l1, l2, l3] [] (cI m a (jup (mI m a) 3 x)) Q := A_putI hB_X6_readValue dX6_readValue_96 hO_X6_readValue fF_6_29 rfl (fun h => Bool.noConfusion h)
theorem dX6_readValue_99 : decode cX6_readValue 99 = .ok (.aload_n 0, 1) := by decide +kernel
theorem tX6_readValue_99 {d : Nat} {l1 l2 l3 : Option Value} {x : Nat} {m : jmM} {Q : Option Value → jmM → Prop} : AW d 101 99 [some (.ref x), l1, l2, l3] [] m Q ↔ AW d 101 100 [some (.ref x), l1, l2, l3] [.ref x] m Q := A_aload_n hB_X6_readValue dX6_readValue_99 rfl
theorem dX6_readValue_100 : decode cX6_readValue 100 = .ok (.iload_n 3, 1) := by decide +kernel
theorem tX6_readValue_100 {d : Nat} {l0 l1 l2 : Option Value} {v0 : Value} {x : Int32} {m : jmM} {Q : Option Value → jmM → Prop} : AW d 101 100 [l0, l1, l2, some (.int x)] [v0] m Q ↔ AW d 101 101 [l0, l1, l2, some (.int x)] [.int x, v0] m Q := A_iload_n hB_X6_readValue dX6_readValue_100 rfl
theorem dX6_readValue_101 : decode cX6_readValue 101 = .ok (.invokevirtual 142, 3) := by decide +kernel
theorem tX6_readValue_101 {d : Nat} {l0 l1 l2 l3 : Option Value} {y0 : Value} {a : Nat} {m : jmM} {Q : Option Value → jmM → Prop} : AW d 101 101 [l0, l1, l2, l3] [y0, .ref a] m Q ↔ (mS m a).1 = 6 ∧ CC d 102 [.ref a, y0] m (jK d 101 104 [l0, l1, l2, l3] [] Q) := A_callV hB_X6_readValue dX6_readValue_101 hO_X6_readValue fS_6_142 ⟨Nat.le_of_ble_eq_true rfl, Nat.le_of_ble_eq_true rfl⟩ rfl rfl rfl
theorem dX6_readValue_104 : decode cX6_readValue 104 = .ok (.return_, 1) := by decide +kernel
theorem tX6_readValue_104 {d : Nat} {l0 l1 l2 l3 : Option Value} {m : jmM} {Q : Option Value → jmM → Prop} : AW d 101 104 [l0, l1, l2, l3] [] m Q ↔ Q none m := A_return hB_X6_readValue dX6_readValue_104 hR_X6_readValue
theorem hB_X6_countTold : jB 102 = cX6_countTold := rfl
theorem hO_X6_countTold : jO 102 = 6 := rfl
theorem hR_X6_countTold : jRt 102 = none := rfl
theorem nX6_countTold (d : Nat) (x0 : Nat) (x1 : Int32) (m : jmM) (Q : Option Value → jmM → Prop) : CC (d + 1) 102 [.ref x0, .int x1] m Q ↔ AW d 102 0 [some (.ref x0), some (.int x1)] [] m Q := CC_body (Nat.le_of_ble_eq_true rfl)
theorem dX6_countTold_0 : decode cX6_countTold 0 = .ok (.aload_n 0, 1) := by decide +kernel
theorem tX6_countTold_0 {d : Nat} {l1 : Option Value} {x : Nat} {m : jmM} {Q : Option Value → jmM → Prop} : AW d 102 0 [some (.ref x), l1] [] m Q ↔ AW d 102 1 [some (.ref x), l1] [.ref x] m Q := A_aload_n hB_X6_countTold dX6_countTold_0 rfl
theorem dX6_countTold_1 : decode cX6_countTold 1 = .ok (.dup, 1) := by decide +kernel
theorem tX6_countTold_1 {d : Nat} {l0 l1 : Option Value} {x : Nat} {m : jmM} {Q : Option Value → jmM → Prop} : AW d 102 1 [l0, l1] [.ref x] m Q ↔ AW d 102 2 [l0, l1] [.ref x, .ref x] m Q := A_dup_a hB_X6_countTold dX6_countTold_1
theorem dX6_countTold_2 : decode cX6_countTold 2 = .ok (.getfield 33, 3) := by decide +kernel
theorem tX6_countTold_2 {d : Nat} {l0 l1 : Option Value} {v1 : Value} {a : Nat} {m : jmM} {Q : Option Value → jmM → Prop} : AW d 102 2 [l0, l1] [.ref a, v1] m Q ↔ (mS m a).1 = 6 ∧ AW d 102 5 [l0, l1] [.int (mI m a 4), v1] m Q := A_getfield (f := fun m a => .int (mI m a 4)) hB_X6_countTold dX6_countTold_2 hO_X6_countTold fF_6_33 rfl
theorem dX6_countTold_5 : decode cX6_countTold 5 = .ok (.iconst 1, 1) := by decide +kernel
theorem tX6_countTold_5 {d : Nat} {l0 l1 : Option Value} {v0 v1 : Value} {m : jmM} {Q : Option Value → jmM → Prop} : AW d 102 5 [l0, l1] [v0, v1] m Q ↔ AW d 102 6 [l0, l1] [.int 1, v0, v1] m Q := A_iconst hB_X6_countTold dX6_countTold_5 (by decide)
theorem dX6_countTold_6 : decode cX6_countTold 6 = .ok (.iadd, 1) := by decide +kernel
theorem tX6_countTold_6 {d : Nat} {l0 l1 : Option Value} {v2 : Value} {x y : Int32} {m : jmM} {Q : Option Value → jmM → Prop} : AW d 102 6 [l0, l1] [.int y, .int x, v2] m Q ↔ AW d 102 7 [l0, l1] [.int (x + y), v2] m Q := A_iadd hB_X6_countTold dX6_countTold_6
theorem dX6_countTold_7 : decode cX6_countTold 7 = .ok (.putfield 33, 3) := by decide +kernel
theorem tX6_countTold_7 {d : Nat} {l0 l1 : Option Value} {x : Int32} {a : Nat} {m : jmM} {Q : Option Value → jmM → Prop} : AW d 102 7 [l0, l1] [.int x, .ref a] m Q ↔ (mS m a).1 = 6 ∧ AW d 102 10 [l0, l1] [] (cI m a (jup (mI m a) 4 x)) Q := A_putI hB_X6_countTold dX6_countTold_7 hO_X6_countTold fF_6_33 rfl (fun h => Bool.noConfusion h)
theorem dX6_countTold_10 : decode cX6_countTold 10 = .ok (.aload_n 0, 1) := by decide +kernel
theorem tX6_countTold_10 {d : Nat} {l1 : Option Value} {x : Nat} {m : jmM} {Q : Option Value → jmM → Prop} : AW d 102 10 [some (.ref x), l1] [] m Q ↔ AW d 102 11 [some (.ref x), l1] [.ref x] m Q := A_aload_n hB_X6_countTold dX6_countTold_10 rfl
theorem dX6_countTold_11 : decode cX6_countTold 11 = .ok (.getfield 33, 3) := by decide +kernel
theorem tX6_countTold_11 {d : Nat} {l0 l1 : Option Value} {a : Nat} {m : jmM} {Q : Option Value → jmM → Prop} : AW d 102 11 [l0, l1] [.ref a] m Q ↔ (mS m a).1 = 6 ∧ AW d 102 14 [l0, l1] [.int (mI m a 4)] m Q := A_getfield (f := fun m a => .int (mI m a 4)) hB_X6_countTold dX6_countTold_11 hO_X6_countTold fF_6_33 rfl
theorem dX6_countTold_14 : decode cX6_countTold 14 = .ok (.bipush 60, 2) := by decide +kernel
theorem tX6_countTold_14 {d : Nat} {l0 l1 : Option Value} {v0 : Value} {m : jmM} {Q : Option Value → jmM → Prop} : AW d 102 14 [l0, l1] [v0] m Q ↔ AW d 102 16 [l0, l1] [.int 60, v0] m Q := A_bipush hB_X6_countTold dX6_countTold_14 rfl
theorem dX6_countTold_16 : decode cX6_countTold 16 = .ok (.if_icmp .le 9, 3) := by decide +kernel
theorem tX6_countTold_16 {d : Nat} {l0 l1 : Option Value} {x y : Int32} {m : jmM} {Q : Option Value → jmM → Prop} : AW d 102 16 [l0, l1] [.int y, .int x] m Q ↔ if x ≤ y then AW d 102 25 [l0, l1] [] m Q else AW d 102 19 [l0, l1] [] m Q := A_icmp_le hB_X6_countTold dX6_countTold_16 (by decide)
theorem dX6_countTold_19 : decode cX6_countTold 19 = .ok (.aload_n 0, 1) := by decide +kernel
theorem tX6_countTold_19 {d : Nat} {l1 : Option Value} {x : Nat} {m : jmM} {Q : Option Value → jmM → Prop} : AW d 102 19 [some (.ref x), l1] [] m Q ↔ AW d 102 20 [some (.ref x), l1] [.ref x] m Q := A_aload_n hB_X6_countTold dX6_countTold_19 rfl
theorem dX6_countTold_20 : decode cX6_countTold 20 = .ok (.iload_n 1, 1) := by decide +kernel
theorem tX6_countTold_20 {d : Nat} {l0 : Option Value} {v0 : Value} {x : Int32} {m : jmM} {Q : Option Value → jmM → Prop} : AW d 102 20 [l0, some (.int x)] [v0] m Q ↔ AW d 102 21 [l0, some (.int x)] [.int x, v0] m Q := A_iload_n hB_X6_countTold dX6_countTold_20 rfl
theorem dX6_countTold_21 : decode cX6_countTold 21 = .ok (.iconst 3, 1) := by decide +kernel
theorem tX6_countTold_21 {d : Nat} {l0 l1 : Option Value} {v0 v1 : Value} {m : jmM} {Q : Option Value → jmM → Prop} : AW d 102 21 [l0, l1] [v0, v1] m Q ↔ AW d 102 22 [l0, l1] [.int 3, v0, v1] m Q := A_iconst hB_X6_countTold dX6_countTold_21 (by decide)
theorem dX6_countTold_22 : decode cX6_countTold 22 = .ok (.invokevirtual 69, 3) := by decide +kernel
theorem tX6_countTold_22 {d : Nat} {l0 l1 : Option Value} {y0 y1 : Value} {a : Nat} {m : jmM} {Q : Option Value → jmM → Prop} : AW d 102 22 [l0, l1] [y0, y1, .ref a] m Q ↔ (mS m a).1 = 6 ∧ CC d 91 [.ref a, y1, y0] m (jK d 102 25 [l0, l1] [] Q) := A_callV hB_X6_countTold dX6_countTold_22 hO_X6_countTold fS_6_69 ⟨Nat.le_of_ble_eq_true rfl, Nat.le_of_ble_eq_true rfl⟩ rfl rfl rfl
theorem dX6_countTold_25 : decode cX6_countTold 25 = .ok (.return_, 1) := by decide +kernel
theorem tX6_countTold_25 {d : Nat} {l0 l1 : Option Value} {m : jmM} {Q : Option Value → jmM → Prop} : AW d 102 25 [l0, l1] [] m Q ↔ Q none m := A_return hB_X6_countTold dX6_countTold_25 hR_X6_countTold
theorem hB_X6_readNumber : jB 103 = cX6_readNumber := rfl
theorem hO_X6_readNumber : jO 103 = 6 := rfl
theorem hR_X6_readNumber : jRt 103 = (some .int) := rfl
theorem nX6_readNumber (d : Nat) (x0 : Nat) (x1 : Int32) (m : jmM) (Q : Option Value → jmM → Prop) : CC (d + 1) 103 [.ref x0, .int x1] m Q ↔ AW d 103 0 [some (.ref x0), some (.int x1), none, none, none] [] m Q := CC_body (Nat.le_of_ble_eq_true rfl)
theorem dX6_readNumber_0 : decode cX6_readNumber 0 = .ok (.aload_n 0, 1) := by decide +kernel
theorem tX6_readNumber_0 {d : Nat} {l1 l2 l3 l4 : Option Value} {x : Nat} {m : jmM} {Q : Option Value → jmM → Prop} : AW d 103 0 [some (.ref x), l1, l2, l3, l4] [] m Q ↔ AW d 103 1 [some (.ref x), l1, l2, l3, l4] [.ref x] m Q := A_aload_n hB_X6_readNumber dX6_readNumber_0 rfl
theorem dX6_readNumber_1 : decode cX6_readNumber 1 = .ok (.getfield 29, 3) := by decide +kernel
theorem tX6_readNumber_1 {d : Nat} {l0 l1 l2 l3 l4 : Option Value} {a : Nat} {m : jmM} {Q : Option Value → jmM → Prop} : AW d 103 1 [l0, l1, l2, l3, l4] [.ref a] m Q ↔ (mS m a).1 = 6 ∧ AW d 103 4 [l0, l1, l2, l3, l4] [.int (mI m a 3)] m Q := A_getfield (f := fun m a => .int (mI m a 3)) hB_X6_readNumber dX6_readNumber_1 hO_X6_readNumber fF_6_29 rfl
theorem dX6_readNumber_4 : decode cX6_readNumber 4 = .ok (.istore_n 2, 1) := by decide +kernel
theorem tX6_readNumber_4 {d : Nat} {l0 l1 l2 l3 l4 : Option Value} {x : Int32} {m : jmM} {Q : Option Value → jmM → Prop} : AW d 103 4 [l0, l1, l2, l3, l4] [.int x] m Q ↔ AW d 103 5 [l0, jc1 l1, some (.int x), l3, l4] [] m Q := A_istore_n hB_X6_readNumber dX6_readNumber_4 (Nat.le_of_ble_eq_true rfl) rfl
theorem dX6_readNumber_5 : decode cX6_readNumber 5 = .ok (.iconst 0, 1) := by decide +kernel
theorem tX6_readNumber_5 {d : Nat} {l0 l1 l2 l3 l4 : Option Value} {m : jmM} {Q : Option Value → jmM → Prop} : AW d 103 5 [l0, l1, l2, l3, l4] [] m Q ↔ AW d 103 6 [l0, l1, l2, l3, l4] [.int 0] m Q := A_iconst hB_X6_readNumber dX6_readNumber_5 (by decide)
theorem dX6_readNumber_6 : decode cX6_readNumber 6 = .ok (.istore_n 3, 1) := by decide +kernel
theorem tX6_readNumber_6 {d : Nat} {l0 l1 l2 l3 l4 : Option Value} {x : Int32} {m : jmM} {Q : Option Value → jmM → Prop} : AW d 103 6 [l0, l1, l2, l3, l4] [.int x] m Q ↔ AW d 103 7 [l0, l1, jc1 l2, some (.int x), l4] [] m Q := A_istore_n hB_X6_readNumber dX6_readNumber_6 (Nat.le_of_ble_eq_true rfl) rfl
theorem dX6_readNumber_7 : decode cX6_readNumber 7 = .ok (.iconst 0, 1) := by decide +kernel
theorem tX6_readNumber_7 {d : Nat} {l0 l1 l2 l3 l4 : Option Value} {m : jmM} {Q : Option Value → jmM → Prop} : AW d 103 7 [l0, l1, l2, l3, l4] [] m Q ↔ AW d 103 8 [l0, l1, l2, l3, l4] [.int 0] m Q := A_iconst hB_X6_readNumber dX6_readNumber_7 (by decide)
theorem dX6_readNumber_8 : decode cX6_readNumber 8 = .ok (.istore 4, 2) := by decide +kernel
theorem tX6_readNumber_8 {d : Nat} {l0 l1 l2 l3 l4 : Option Value} {x : Int32} {m : jmM} {Q : Option Value → jmM → Prop} : AW d 103 8 [l0, l1, l2, l3, l4] [.int x] m Q ↔ AW d 103 10 [l0, l1, l2, jc1 l3, some (.int x)] [] m Q := A_istore hB_X6_readNumber dX6_readNumber_8 (Nat.le_of_ble_eq_true rfl) rfl
theorem dX6_readNumber_10 : decode cX6_readNumber 10 = .ok (.iload 4, 2) := by decide +kernel
theorem tX6_readNumber_10 {d : Nat} {l0 l1 l2 l3 : Option Value} {x : Int32} {m : jmM} {Q : Option Value → jmM → Prop} : AW d 103 10 [l0, l1, l2, l3, some (.int x)] [] m Q ↔ AW d 103 12 [l0, l1, l2, l3, some (.int x)] [.int x] m Q := A_iload hB_X6_readNumber dX6_readNumber_10 rfl
theorem dX6_readNumber_12 : decode cX6_readNumber 12 = .ok (.sipush 400, 3) := by decide +kernel
theorem tX6_readNumber_12 {d : Nat} {l0 l1 l2 l3 l4 : Option Value} {v0 : Value} {m : jmM} {Q : Option Value → jmM → Prop} : AW d 103 12 [l0, l1, l2, l3, l4] [v0] m Q ↔ AW d 103 15 [l0, l1, l2, l3, l4] [.int 400, v0] m Q := A_sipush hB_X6_readNumber dX6_readNumber_12 rfl
theorem dX6_readNumber_15 : decode cX6_readNumber 15 = .ok (.if_icmp .ge 66, 3) := by decide +kernel
theorem tX6_readNumber_15 {d : Nat} {l0 l1 l2 l3 l4 : Option Value} {x y : Int32} {m : jmM} {Q : Option Value → jmM → Prop} : AW d 103 15 [l0, l1, l2, l3, l4] [.int y, .int x] m Q ↔ if y ≤ x then AW d 103 81 [l0, l1, l2, l3, l4] [] m Q else AW d 103 18 [l0, l1, l2, l3, l4] [] m Q := A_icmp_ge hB_X6_readNumber dX6_readNumber_15 (by decide)
theorem dX6_readNumber_18 : decode cX6_readNumber 18 = .ok (.aload_n 0, 1) := by decide +kernel
theorem tX6_readNumber_18 {d : Nat} {l1 l2 l3 l4 : Option Value} {x : Nat} {m : jmM} {Q : Option Value → jmM → Prop} : AW d 103 18 [some (.ref x), l1, l2, l3, l4] [] m Q ↔ AW d 103 19 [some (.ref x), l1, l2, l3, l4] [.ref x] m Q := A_aload_n hB_X6_readNumber dX6_readNumber_18 rfl
theorem dX6_readNumber_19 : decode cX6_readNumber 19 = .ok (.getfield 12, 3) := by decide +kernel
theorem tX6_readNumber_19 {d : Nat} {l0 l1 l2 l3 l4 : Option Value} {a : Nat} {m : jmM} {Q : Option Value → jmM → Prop} : AW d 103 19 [l0, l1, l2, l3, l4] [.ref a] m Q ↔ (mS m a).1 = 6 ∧ AW d 103 22 [l0, l1, l2, l3, l4] [va_rf (mR m a 0)] m Q := A_getfield (f := fun m a => va_rf (mR m a 0)) hB_X6_readNumber dX6_readNumber_19 hO_X6_readNumber fF_6_12 rfl
theorem dX6_readNumber_22 : decode cX6_readNumber 22 = .ok (.aload_n 0, 1) := by decide +kernel
theorem tX6_readNumber_22 {d : Nat} {l1 l2 l3 l4 : Option Value} {v0 : Value} {x : Nat} {m : jmM} {Q : Option Value → jmM → Prop} : AW d 103 22 [some (.ref x), l1, l2, l3, l4] [v0] m Q ↔ AW d 103 23 [some (.ref x), l1, l2, l3, l4] [.ref x, v0] m Q := A_aload_n hB_X6_readNumber dX6_readNumber_22 rfl
theorem dX6_readNumber_23 : decode cX6_readNumber 23 = .ok (.getfield 29, 3) := by decide +kernel
theorem tX6_readNumber_23 {d : Nat} {l0 l1 l2 l3 l4 : Option Value} {v1 : Value} {a : Nat} {m : jmM} {Q : Option Value → jmM → Prop} : AW d 103 23 [l0, l1, l2, l3, l4] [.ref a, v1] m Q ↔ (mS m a).1 = 6 ∧ AW d 103 26 [l0, l1, l2, l3, l4] [.int (mI m a 3), v1] m Q := A_getfield (f := fun m a => .int (mI m a 3)) hB_X6_readNumber dX6_readNumber_23 hO_X6_readNumber fF_6_29 rfl
theorem dX6_readNumber_26 : decode cX6_readNumber 26 = .ok (.invokevirtual 145, 3) := by decide +kernel
theorem tX6_readNumber_26 {d : Nat} {l0 l1 l2 l3 l4 : Option Value} {y0 : Value} {a : Nat} {m : jmM} {Q : Option Value → jmM → Prop} : AW d 103 26 [l0, l1, l2, l3, l4] [y0, .ref a] m Q ↔ (mS m a).1 = 9 ∧ CC d 134 [.ref a, y0] m (jK d 103 29 [l0, l1, l2, l3, l4] [] Q) := A_callV hB_X6_readNumber dX6_readNumber_26 hO_X6_readNumber fS_6_145 ⟨Nat.le_of_ble_eq_true rfl, Nat.le_of_ble_eq_true rfl⟩ rfl rfl rfl
theorem dX6_readNumber_29 : decode cX6_readNumber 29 = .ok (.invokestatic 154, 3) := by decide +kernel
theorem tX6_readNumber_29 {d : Nat} {l0 l1 l2 l3 l4 : Option Value} {y0 : Value} {m : jmM} {Q : Option Value → jmM → Prop} : AW d 103 29 [l0, l1, l2, l3, l4] [y0] m Q ↔ CC d 111 [y0] m (jK d 103 32 [l0, l1, l2, l3, l4] [] Q) := A_callS0 hB_X6_readNumber dX6_readNumber_29 hO_X6_readNumber fS_6_154 ⟨Nat.le_of_ble_eq_true rfl, Nat.le_of_ble_eq_true rfl⟩ rfl rfl
theorem dX6_readNumber_32 : decode cX6_readNumber 32 = .ok (.ifCond .eq 49, 3) := by decide +kernel
theorem tX6_readNumber_32 {d : Nat} {l0 l1 l2 l3 l4 : Option Value} {x : Int32} {m : jmM} {Q : Option Value → jmM → Prop} : AW d 103 32 [l0, l1, l2, l3, l4] [.int x] m Q ↔ if x = 0 then AW d 103 81 [l0, l1, l2, l3, l4] [] m Q else AW d 103 35 [l0, l1, l2, l3, l4] [] m Q := A_if_eq hB_X6_readNumber dX6_readNumber_32 (by decide)
theorem dX6_readNumber_35 : decode cX6_readNumber 35 = .ok (.iload 4, 2) := by decide +kernel
theorem tX6_readNumber_35 {d : Nat} {l0 l1 l2 l3 : Option Value} {x : Int32} {m : jmM} {Q : Option Value → jmM → Prop} : AW d 103 35 [l0, l1, l2, l3, some (.int x)] [] m Q ↔ AW d 103 37 [l0, l1, l2, l3, some (.int x)] [.int x] m Q := A_iload hB_X6_readNumber dX6_readNumber_35 rfl
theorem dX6_readNumber_37 : decode cX6_readNumber 37 = .ok (.iconst 5, 1) := by decide +kernel
theorem tX6_readNumber_37 {d : Nat} {l0 l1 l2 l3 l4 : Option Value} {v0 : Value} {m : jmM} {Q : Option Value → jmM → Prop} : AW d 103 37 [l0, l1, l2, l3, l4] [v0] m Q ↔ AW d 103 38 [l0, l1, l2, l3, l4] [.int 5, v0] m Q := A_iconst hB_X6_readNumber dX6_readNumber_37 (by decide)
theorem dX6_readNumber_38 : decode cX6_readNumber 38 = .ok (.if_icmp .ge 25, 3) := by decide +kernel
theorem tX6_readNumber_38 {d : Nat} {l0 l1 l2 l3 l4 : Option Value} {x y : Int32} {m : jmM} {Q : Option Value → jmM → Prop} : AW d 103 38 [l0, l1, l2, l3, l4] [.int y, .int x] m Q ↔ if y ≤ x then AW d 103 63 [l0, l1, l2, l3, l4] [] m Q else AW d 103 41 [l0, l1, l2, l3, l4] [] m Q := A_icmp_ge hB_X6_readNumber dX6_readNumber_38 (by decide)
theorem dX6_readNumber_41 : decode cX6_readNumber 41 = .ok (.iload_n 3, 1) := by decide +kernel
theorem tX6_readNumber_41 {d : Nat} {l0 l1 l2 l4 : Option Value} {x : Int32} {m : jmM} {Q : Option Value → jmM → Prop} : AW d 103 41 [l0, l1, l2, some (.int x), l4] [] m Q ↔ AW d 103 42 [l0, l1, l2, some (.int x), l4] [.int x] m Q := A_iload_n hB_X6_readNumber dX6_readNumber_41 rfl
theorem dX6_readNumber_42 : decode cX6_readNumber 42 = .ok (.bipush 10, 2) := by decide +kernel
theorem tX6_readNumber_42 {d : Nat} {l0 l1 l2 l3 l4 : Option Value} {v0 : Value} {m : jmM} {Q : Option Value → jmM → Prop} : AW d 103 42 [l0, l1, l2, l3, l4] [v0] m Q ↔ AW d 103 44 [l0, l1, l2, l3, l4] [.int 10, v0] m Q := A_bipush hB_X6_readNumber dX6_readNumber_42 rfl
theorem dX6_readNumber_44 : decode cX6_readNumber 44 = .ok (.imul, 1) := by decide +kernel
theorem tX6_readNumber_44 {d : Nat} {l0 l1 l2 l3 l4 : Option Value} {x y : Int32} {m : jmM} {Q : Option Value → jmM → Prop} : AW d 103 44 [l0, l1, l2, l3, l4] [.int y, .int x] m Q ↔ AW d 103 45 [l0, l1, l2, l3, l4] [.int (x * y)] m Q := A_imul hB_X6_readNumber dX6_readNumber_44
theorem dX6_readNumber_45 : decode cX6_readNumber 45 = .ok (.aload_n 0, 1) := by decide +kernel
theorem tX6_readNumber_45 {d : Nat} {l1 l2 l3 l4 : Option Value} {v0 : Value} {x : Nat} {m : jmM} {Q : Option Value → jmM → Prop} : AW d 103 45 [some (.ref x), l1, l2, l3, l4] [v0] m Q ↔ AW d 103 46 [some (.ref x), l1, l2, l3, l4] [.ref x, v0] m Q := A_aload_n hB_X6_readNumber dX6_readNumber_45 rfl
theorem dX6_readNumber_46 : decode cX6_readNumber 46 = .ok (.getfield 12, 3) := by decide +kernel
theorem tX6_readNumber_46 {d : Nat} {l0 l1 l2 l3 l4 : Option Value} {v1 : Value} {a : Nat} {m : jmM} {Q : Option Value → jmM → Prop} : AW d 103 46 [l0, l1, l2, l3, l4] [.ref a, v1] m Q ↔ (mS m a).1 = 6 ∧ AW d 103 49 [l0, l1, l2, l3, l4] [va_rf (mR m a 0), v1] m Q := A_getfield (f := fun m a => va_rf (mR m a 0)) hB_X6_readNumber dX6_readNumber_46 hO_X6_readNumber fF_6_12 rfl
theorem dX6_readNumber_49 : decode cX6_readNumber 49 = .ok (.aload_n 0, 1) := by decide +kernel
theorem tX6_readNumber_49 {d : Nat} {l1 l2 l3 l4 : Option Value} {v0 v1 : Value} {x : Nat} {m : jmM} {Q : Option Value → jmM → Prop} : AW d 103 49 [some (.ref x), l1, l2, l3, l4] [v0, v1] m Q ↔ AW d 103 50 [some (.ref x), l1, l2, l3, l4] [.ref x, v0, v1] m Q := A_aload_n hB_X6_readNumber dX6_readNumber_49 rfl
theorem dX6_readNumber_50 : decode cX6_readNumber 50 = .ok (.getfield 29, 3) := by decide +kernel
theorem tX6_readNumber_50 {d : Nat} {l0 l1 l2 l3 l4 : Option Value} {v1 v2 : Value} {a : Nat} {m : jmM} {Q : Option Value → jmM → Prop} : AW d 103 50 [l0, l1, l2, l3, l4] [.ref a, v1, v2] m Q ↔ (mS m a).1 = 6 ∧ AW d 103 53 [l0, l1, l2, l3, l4] [.int (mI m a 3), v1, v2] m Q := A_getfield (f := fun m a => .int (mI m a 3)) hB_X6_readNumber dX6_readNumber_50 hO_X6_readNumber fF_6_29 rfl
theorem dX6_readNumber_53 : decode cX6_readNumber 53 = .ok (.invokevirtual 145, 3) := by decide +kernel
theorem tX6_readNumber_53 {d : Nat} {l0 l1 l2 l3 l4 : Option Value} {v2 : Value} {y0 : Value} {a : Nat} {m : jmM} {Q : Option Value → jmM → Prop} : AW d 103 53 [l0, l1, l2, l3, l4] [y0, .ref a, v2] m Q ↔ (mS m a).1 = 9 ∧ CC d 134 [.ref a, y0] m (jK d 103 56 [l0, l1, l2, l3, l4] [v2] Q) := A_callV hB_X6_readNumber dX6_readNumber_53 hO_X6_readNumber fS_6_145 ⟨Nat.le_of_ble_eq_true rfl, Nat.le_of_ble_eq_true rfl⟩ rfl rfl rfl
theorem dX6_readNumber_56 : decode cX6_readNumber 56 = .ok (.iadd, 1) := by decide +kernel
theorem tX6_readNumber_56 {d : Nat} {l0 l1 l2 l3 l4 : Option Value} {x y : Int32} {m : jmM} {Q : Option Value → jmM → Prop} : AW d 103 56 [l0, l1, l2, l3, l4] [.int y, .int x] m Q ↔ AW d 103 57 [l0, l1, l2, l3, l4] [.int (x + y)] m Q := A_iadd hB_X6_readNumber dX6_readNumber_56
theorem dX6_readNumber_57 : decode cX6_readNumber 57 = .ok (.bipush 48, 2) := by decide +kernel
theorem tX6_readNumber_57 {d : Nat} {l0 l1 l2 l3 l4 : Option Value} {v0 : Value} {m : jmM} {Q : Option Value → jmM → Prop} : AW d 103 57 [l0, l1, l2, l3, l4] [v0] m Q ↔ AW d 103 59 [l0, l1, l2, l3, l4] [.int 48, v0] m Q := A_bipush hB_X6_readNumber dX6_readNumber_57 rfl
theorem dX6_readNumber_59 : decode cX6_readNumber 59 = .ok (.isub, 1) := by decide +kernel
theorem tX6_readNumber_59 {d : Nat} {l0 l1 l2 l3 l4 : Option Value} {x y : Int32} {m : jmM} {Q : Option Value → jmM → Prop} : AW d 103 59 [l0, l1, l2, l3, l4] [.int y, .int x] m Q ↔ AW d 103 60 [l0, l1, l2, l3, l4] [.int (x - y)] m Q := A_isub hB_X6_readNumber dX6_readNumber_59
theorem dX6_readNumber_60 : decode cX6_readNumber 60 = .ok (.goto 4, 3) := by decide +kernel
theorem tX6_readNumber_60 {d : Nat} {l0 l1 l2 l3 l4 : Option Value} {v0 : Value} {m : jmM} {Q : Option Value → jmM → Prop} : AW d 103 60 [l0, l1, l2, l3, l4] [v0] m Q ↔ AW d 103 64 [l0, l1, l2, l3, l4] [v0] m Q := A_goto hB_X6_readNumber dX6_readNumber_60 (by decide)
theorem dX6_readNumber_63 : decode cX6_readNumber 63 = .ok (.iload_n 3, 1) := by decide +kernel
theorem tX6_readNumber_63 {d : Nat} {l0 l1 l2 l4 : Option Value} {x : Int32} {m : jmM} {Q : Option Value → jmM → Prop} : AW d 103 63 [l0, l1, l2, some (.int x), l4] [] m Q ↔ AW d 103 64 [l0, l1, l2, some (.int x), l4] [.int x] m Q := A_iload_n hB_X6_readNumber dX6_readNumber_63 rfl
theorem dX6_readNumber_64 : decode cX6_readNumber 64 = .ok (.istore_n 3, 1) := by decide +kernel
theorem tX6_readNumber_64 {d : Nat} {l0 l1 l2 l3 l4 : Option Value} {x : Int32} {m : jmM} {Q : Option Value → jmM → Prop} : AW d 103 64 [l0, l1, l2, l3, l4] [.int x] m Q ↔ AW d 103 65 [l0, l1, jc1 l2, some (.int x), l4] [] m Q := A_istore_n hB_X6_readNumber dX6_readNumber_64 (Nat.le_of_ble_eq_true rfl) rfl
theorem dX6_readNumber_65 : decode cX6_readNumber 65 = .ok (.iinc 4 1, 3) := by decide +kernel
theorem tX6_readNumber_65 {d : Nat} {l0 l1 l2 l3 : Option Value} {x : Int32} {m : jmM} {Q : Option Value → jmM → Prop} : AW d 103 65 [l0, l1, l2, l3, some (.int x)] [] m Q ↔ AW d 103 68 [l0, l1, l2, jc1 l3, some (.int (x + 1))] [] m Q := A_iinc hB_X6_readNumber dX6_readNumber_65 rfl (Nat.le_of_ble_eq_true rfl) (v := 1) (by decide) rfl
theorem dX6_readNumber_68 : decode cX6_readNumber 68 = .ok (.aload_n 0, 1) := by decide +kernel
theorem tX6_readNumber_68 {d : Nat} {l1 l2 l3 l4 : Option Value} {x : Nat} {m : jmM} {Q : Option Value → jmM → Prop} : AW d 103 68 [some (.ref x), l1, l2, l3, l4] [] m Q ↔ AW d 103 69 [some (.ref x), l1, l2, l3, l4] [.ref x] m Q := A_aload_n hB_X6_readNumber dX6_readNumber_68 rfl
theorem dX6_readNumber_69 : decode cX6_readNumber 69 = .ok (.dup, 1) := by decide +kernel
theorem tX6_readNumber_69 {d : Nat} {l0 l1 l2 l3 l4 : Option Value} {x : Nat} {m : jmM} {Q : Option Value → jmM → Prop} : AW d 103 69 [l0, l1, l2, l3, l4] [.ref x] m Q ↔ AW d 103 70 [l0, l1, l2, l3, l4] [.ref x, .ref x] m Q := A_dup_a hB_X6_readNumber dX6_readNumber_69
theorem dX6_readNumber_70 : decode cX6_readNumber 70 = .ok (.getfield 29, 3) := by decide +kernel
theorem tX6_readNumber_70 {d : Nat} {l0 l1 l2 l3 l4 : Option Value} {v1 : Value} {a : Nat} {m : jmM} {Q : Option Value → jmM → Prop} : AW d 103 70 [l0, l1, l2, l3, l4] [.ref a, v1] m Q ↔ (mS m a).1 = 6 ∧ AW d 103 73 [l0, l1, l2, l3, l4] [.int (mI m a 3), v1] m Q := A_getfield (f := fun m a => .int (mI m a 3)) hB_X6_readNumber dX6_readNumber_70 hO_X6_readNumber fF_6_29 rfl
theorem dX6_readNumber_73 : decode cX6_readNumber 73 = .ok (.iconst 1, 1) := by decide +kernel
theorem tX6_readNumber_73 {d : Nat} {l0 l1 l2 l3 l4 : Option Value} {v0 v1 : Value} {m : jmM} {Q : Option Value → jmM → Prop} : AW d 103 73 [l0, l1, l2, l3, l4] [v0, v1] m Q ↔ AW d 103 74 [l0, l1, l2, l3, l4] [.int 1, v0, v1] m Q := A_iconst hB_X6_readNumber dX6_readNumber_73 (by decide)
theorem dX6_readNumber_74 : decode cX6_readNumber 74 = .ok (.iadd, 1) := by decide +kernel
theorem tX6_readNumber_74 {d : Nat} {l0 l1 l2 l3 l4 : Option Value} {v2 : Value} {x y : Int32} {m : jmM} {Q : Option Value → jmM → Prop} : AW d 103 74 [l0, l1, l2, l3, l4] [.int y, .int x, v2] m Q ↔ AW d 103 75 [l0, l1, l2, l3, l4] [.int (x + y), v2] m Q := A_iadd hB_X6_readNumber dX6_readNumber_74
theorem dX6_readNumber_75 : decode cX6_readNumber 75 = .ok (.putfield 29, 3) := by decide +kernel
theorem tX6_readNumber_75 {d : Nat} {l0 l1 l2 l3 l4 : Option Value} {x : Int32} {a : Nat} {m : jmM} {Q : Option Value → jmM → Prop} : AW d 103 75 [l0, l1, l2, l3, l4] [.int x, .ref a] m Q ↔ (mS m a).1 = 6 ∧ AW d 103 78 [l0, l1, l2, l3, l4] [] (cI m a (jup (mI m a) 3 x)) Q := A_putI hB_X6_readNumber dX6_readNumber_75 hO_X6_readNumber fF_6_29 rfl (fun h => Bool.noConfusion h)
theorem dX6_readNumber_78 : decode cX6_readNumber 78 = .ok (.goto (-68), 3) := by decide +kernel
theorem tX6_readNumber_78 {d : Nat} {l0 l1 l2 l3 l4 : Option Value} {m : jmM} {Q : Option Value → jmM → Prop} : AW d 103 78 [l0, l1, l2, l3, l4] [] m Q ↔ AW d 103 10 [l0, l1, l2, l3, l4] [] m Q := A_goto hB_X6_readNumber dX6_readNumber_78 (by decide)
theorem dX6_readNumber_81 : decode cX6_readNumber 81 = .ok (.iload 4, 2) := by decide +kernel
theorem tX6_readNumber_81 {d : Nat} {l0 l1 l2 l3 : Option Value} {x : Int32} {m : jmM} {Q : Option Value → jmM → Prop} : AW d 103 81 [l0, l1, l2, l3, some (.int x)] [] m Q ↔ AW d 103 83 [l0, l1, l2, l3, some (.int x)] [.int x] m Q := A_iload hB_X6_readNumber dX6_readNumber_81 rfl
theorem dX6_readNumber_83 : decode cX6_readNumber 83 = .ok (.ifCond .ne 12, 3) := by decide +kernel
theorem tX6_readNumber_83 {d : Nat} {l0 l1 l2 l3 l4 : Option Value} {x : Int32} {m : jmM} {Q : Option Value → jmM → Prop} : AW d 103 83 [l0, l1, l2, l3, l4] [.int x] m Q ↔ if x = 0 then AW d 103 86 [l0, l1, l2, l3, l4] [] m Q else AW d 103 95 [l0, l1, l2, l3, l4] [] m Q := A_if_ne hB_X6_readNumber dX6_readNumber_83 (by decide)
theorem dX6_readNumber_86 : decode cX6_readNumber 86 = .ok (.aload_n 0, 1) := by decide +kernel
theorem tX6_readNumber_86 {d : Nat} {l1 l2 l3 l4 : Option Value} {x : Nat} {m : jmM} {Q : Option Value → jmM → Prop} : AW d 103 86 [some (.ref x), l1, l2, l3, l4] [] m Q ↔ AW d 103 87 [some (.ref x), l1, l2, l3, l4] [.ref x] m Q := A_aload_n hB_X6_readNumber dX6_readNumber_86 rfl
theorem dX6_readNumber_87 : decode cX6_readNumber 87 = .ok (.iload_n 2, 1) := by decide +kernel
theorem tX6_readNumber_87 {d : Nat} {l0 l1 l3 l4 : Option Value} {v0 : Value} {x : Int32} {m : jmM} {Q : Option Value → jmM → Prop} : AW d 103 87 [l0, l1, some (.int x), l3, l4] [v0] m Q ↔ AW d 103 88 [l0, l1, some (.int x), l3, l4] [.int x, v0] m Q := A_iload_n hB_X6_readNumber dX6_readNumber_87 rfl
theorem dX6_readNumber_88 : decode cX6_readNumber 88 = .ok (.iconst 0, 1) := by decide +kernel
theorem tX6_readNumber_88 {d : Nat} {l0 l1 l2 l3 l4 : Option Value} {v0 v1 : Value} {m : jmM} {Q : Option Value → jmM → Prop} : AW d 103 88 [l0, l1, l2, l3, l4] [v0, v1] m Q ↔ AW d 103 89 [l0, l1, l2, l3, l4] [.int 0, v0, v1] m Q := A_iconst hB_X6_readNumber dX6_readNumber_88 (by decide)
theorem dX6_readNumber_89 : decode cX6_readNumber 89 = .ok (.invokevirtual 69, 3) := by decide +kernel
theorem tX6_readNumber_89 {d : Nat} {l0 l1 l2 l3 l4 : Option Value} {y0 y1 : Value} {a : Nat} {m : jmM} {Q : Option Value → jmM → Prop} : AW d 103 89 [l0, l1, l2, l3, l4] [y0, y1, .ref a] m Q ↔ (mS m a).1 = 6 ∧ CC d 91 [.ref a, y1, y0] m (jK d 103 92 [l0, l1, l2, l3, l4] [] Q) := A_callV hB_X6_readNumber dX6_readNumber_89 hO_X6_readNumber fS_6_69 ⟨Nat.le_of_ble_eq_true rfl, Nat.le_of_ble_eq_true rfl⟩ rfl rfl rfl
theorem dX6_readNumber_92 : decode cX6_readNumber 92 = .ok (.goto 20, 3) := by decide +kernel
theorem tX6_readNumber_92 {d : Nat} {l0 l1 l2 l3 l4 : Option Value} {m : jmM} {Q : Option Value → jmM → Prop} : AW d 103 92 [l0, l1, l2, l3, l4] [] m Q ↔ AW d 103 112 [l0, l1, l2, l3, l4] [] m Q := A_goto hB_X6_readNumber dX6_readNumber_92 (by decide)
theorem dX6_readNumber_95 : decode cX6_readNumber 95 = .ok (.iload 4, 2) := by decide +kernel
theorem tX6_readNumber_95 {d : Nat} {l0 l1 l2 l3 : Option Value} {x : Int32} {m : jmM} {Q : Option Value → jmM → Prop} : AW d 103 95 [l0, l1, l2, l3, some (.int x)] [] m Q ↔ AW d 103 97 [l0, l1, l2, l3, some (.int x)] [.int x] m Q := A_iload hB_X6_readNumber dX6_readNumber_95 rfl
theorem dX6_readNumber_97 : decode cX6_readNumber 97 = .ok (.iconst 5, 1) := by decide +kernel
theorem tX6_readNumber_97 {d : Nat} {l0 l1 l2 l3 l4 : Option Value} {v0 : Value} {m : jmM} {Q : Option Value → jmM → Prop} : AW d 103 97 [l0, l1, l2, l3, l4] [v0] m Q ↔ AW d 103 98 [l0, l1, l2, l3, l4] [.int 5, v0] m Q := A_iconst hB_X6_readNumber dX6_readNumber_97 (by decide)
theorem dX6_readNumber_98 : decode cX6_readNumber 98 = .ok (.if_icmp .gt 8, 3) := by decide +kernel
theorem tX6_readNumber_98 {d : Nat} {l0 l1 l2 l3 l4 : Option Value} {x y : Int32} {m : jmM} {Q : Option Value → jmM → Prop} : AW d 103 98 [l0, l1, l2, l3, l4] [.int y, .int x] m Q ↔ if y < x then AW d 103 106 [l0, l1, l2, l3, l4] [] m Q else AW d 103 101 [l0, l1, l2, l3, l4] [] m Q := A_icmp_gt hB_X6_readNumber dX6_readNumber_98 (by decide)
theorem dX6_readNumber_101 : decode cX6_readNumber 101 = .ok (.iload_n 3, 1) := by decide +kernel
theorem tX6_readNumber_101 {d : Nat} {l0 l1 l2 l4 : Option Value} {x : Int32} {m : jmM} {Q : Option Value → jmM → Prop} : AW d 103 101 [l0, l1, l2, some (.int x), l4] [] m Q ↔ AW d 103 102 [l0, l1, l2, some (.int x), l4] [.int x] m Q := A_iload_n hB_X6_readNumber dX6_readNumber_101 rfl
theorem dX6_readNumber_102 : decode cX6_readNumber 102 = .ok (.iload_n 1, 1) := by decide +kernel
theorem tX6_readNumber_102 {d : Nat} {l0 l2 l3 l4 : Option Value} {v0 : Value} {x : Int32} {m : jmM} {Q : Option Value → jmM → Prop} : AW d 103 102 [l0, some (.int x), l2, l3, l4] [v0] m Q ↔ AW d 103 103 [l0, some (.int x), l2, l3, l4] [.int x, v0] m Q := A_iload_n hB_X6_readNumber dX6_readNumber_102 rfl
theorem dX6_readNumber_103 : decode cX6_readNumber 103 = .ok (.if_icmp .le 9, 3) := by decide +kernel
theorem tX6_readNumber_103 {d : Nat} {l0 l1 l2 l3 l4 : Option Value} {x y : Int32} {m : jmM} {Q : Option Value → jmM → Prop} : AW d 103 103 [l0, l1, l2, l3, l4] [.int y, .int x] m Q ↔ if x ≤ y then AW d 103 112 [l0, l1, l2, l3, l4] [] m Q else AW d 103 106 [l0, l1, l2, l3, l4] [] m Q := A_icmp_le hB_X6_readNumber dX6_readNumber_103 (by decide)
theorem dX6_readNumber_106 : decode cX6_readNumber 106 = .ok (.aload_n 0, 1) := by decide +kernel
theorem tX6_readNumber_106 {d : Nat} {l1 l2 l3 l4 : Option Value} {x : Nat} {m : jmM} {Q : Option Value → jmM → Prop} : AW d 103 106 [some (.ref x), l1, l2, l3, l4] [] m Q ↔ AW d 103 107 [some (.ref x), l1, l2, l3, l4] [.ref x] m Q := A_aload_n hB_X6_readNumber dX6_readNumber_106 rfl
theorem dX6_readNumber_107 : decode cX6_readNumber 107 = .ok (.iload_n 2, 1) := by decide +kernel
theorem tX6_readNumber_107 {d : Nat} {l0 l1 l3 l4 : Option Value} {v0 : Value} {x : Int32} {m : jmM} {Q : Option Value → jmM → Prop} : AW d 103 107 [l0, l1, some (.int x), l3, l4] [v0] m Q ↔ AW d 103 108 [l0, l1, some (.int x), l3, l4] [.int x, v0] m Q := A_iload_n hB_X6_readNumber dX6_readNumber_107 rfl
theorem dX6_readNumber_108 : decode cX6_readNumber 108 = .ok (.iconst 1, 1) := by decide +kernel
theorem tX6_readNumber_108 {d : Nat} {l0 l1 l2 l3 l4 : Option Value} {v0 v1 : Value} {m : jmM} {Q : Option Value → jmM → Prop} : AW d 103 108 [l0, l1, l2, l3, l4] [v0, v1] m Q ↔ AW d 103 109 [l0, l1, l2, l3, l4] [.int 1, v0, v1] m Q := A_iconst hB_X6_readNumber dX6_readNumber_108 (by decide)
theorem dX6_readNumber_109 : decode cX6_readNumber 109 = .ok (.invokevirtual 69, 3) := by decide +kernel
theorem tX6_readNumber_109 {d : Nat} {l0 l1 l2 l3 l4 : Option Value} {y0 y1 : Value} {a : Nat} {m : jmM} {Q : Option Value → jmM → Prop} : AW d 103 109 [l0, l1, l2, l3, l4] [y0, y1, .ref a] m Q ↔ (mS m a).1 = 6 ∧ CC d 91 [.ref a, y1, y0] m (jK d 103 112 [l0, l1, l2, l3, l4] [] Q) := A_callV hB_X6_readNumber dX6_readNumber_109 hO_X6_readNumber fS_6_69 ⟨Nat.le_of_ble_eq_true rfl, Nat.le_of_ble_eq_true rfl⟩ rfl rfl rfl
theorem dX6_readNumber_112 : decode cX6_readNumber 112 = .ok (.iload_n 3, 1) := by decide +kernel
theorem tX6_readNumber_112 {d : Nat} {l0 l1 l2 l4 : Option Value} {x : Int32} {m : jmM} {Q : Option Value → jmM → Prop} : AW d 103 112 [l0, l1, l2, some (.int x), l4] [] m Q ↔ AW d 103 113 [l0, l1, l2, some (.int x), l4] [.int x] m Q := A_iload_n hB_X6_readNumber dX6_readNumber_112 rfl
theorem dX6_readNumber_113 : decode cX6_readNumber 113 = .ok (.ireturn, 1) := by decide +kernel
theorem tX6_readNumber_113 {d : Nat} {l0 l1 l2 l3 l4 : Option Value} {x : Int32} {m : jmM} {Q : Option Value → jmM → Prop} : AW d 103 113 [l0, l1, l2, l3, l4] [.int x] m Q ↔ Q (some (.int x)) m := A_ireturn hB_X6_readNumber dX6_readNumber_113 hR_X6_readNumber
theorem hB_X6_wordNumber : jB 104 = cX6_wordNumber := rfl
theorem hO_X6_wordNumber : jO 104 = 6 := rfl
theorem hR_X6_wordNumber : jRt 104 = (some .int) := rfl
theorem nX6_wordNumber (d : Nat) (x0 : Nat) (m : jmM) (Q : Option Value → jmM → Prop) : CC (d + 1) 104 [.ref x0] m Q ↔ AW d 104 0 [some (.ref x0)] [] m Q := CC_body (Nat.le_of_ble_eq_true rfl)
theorem dX6_wordNumber_0 : decode cX6_wordNumber 0 = .ok (.aload_n 0, 1) := by decide +kernel
theorem tX6_wordNumber_0 {d : Nat} {x : Nat} {m : jmM} {Q : Option Value → jmM → Prop} : AW d 104 0 [some (.ref x)] [] m Q ↔ AW d 104 1 [some (.ref x)] [.ref x] m Q := A_aload_n hB_X6_wordNumber dX6_wordNumber_0 rfl
theorem dX6_wordNumber_1 : decode cX6_wordNumber 1 = .ok (.ldc 161, 2) := by decide +kernel
theorem tX6_wordNumber_1 {d : Nat} {l0 : Option Value} {v0 : Value} {m : jmM} {Q : Option Value → jmM → Prop} : AW d 104 1 [l0] [v0] m Q ↔ AW d 104 3 [l0] [.ref (jScr + 1 + 6), v0] m Q := A_ldcS hB_X6_wordNumber dX6_wordNumber_1 hO_X6_wordNumber fLn_6_161 fLs_6_161
theorem dX6_wordNumber_3 : decode cX6_wordNumber 3 = .ok (.invokevirtual 108, 3) := by decide +kernel
theorem tX6_wordNumber_3 {d : Nat} {l0 : Option Value} {y0 : Value} {a : Nat} {m : jmM} {Q : Option Value → jmM → Prop} : AW d 104 3 [l0] [y0, .ref a] m Q ↔ (mS m a).1 = 6 ∧ CC d 108 [.ref a, y0] m (jK d 104 6 [l0] [] Q) := A_callV hB_X6_wordNumber dX6_wordNumber_3 hO_X6_wordNumber fS_6_108 ⟨Nat.le_of_ble_eq_true rfl, Nat.le_of_ble_eq_true rfl⟩ rfl rfl rfl
theorem dX6_wordNumber_6 : decode cX6_wordNumber 6 = .ok (.ifCond .eq 5, 3) := by decide +kernel
theorem tX6_wordNumber_6 {d : Nat} {l0 : Option Value} {x : Int32} {m : jmM} {Q : Option Value → jmM → Prop} : AW d 104 6 [l0] [.int x] m Q ↔ if x = 0 then AW d 104 11 [l0] [] m Q else AW d 104 9 [l0] [] m Q := A_if_eq hB_X6_wordNumber dX6_wordNumber_6 (by decide)
theorem dX6_wordNumber_9 : decode cX6_wordNumber 9 = .ok (.iconst 0, 1) := by decide +kernel
theorem tX6_wordNumber_9 {d : Nat} {l0 : Option Value} {m : jmM} {Q : Option Value → jmM → Prop} : AW d 104 9 [l0] [] m Q ↔ AW d 104 10 [l0] [.int 0] m Q := A_iconst hB_X6_wordNumber dX6_wordNumber_9 (by decide)
theorem dX6_wordNumber_10 : decode cX6_wordNumber 10 = .ok (.ireturn, 1) := by decide +kernel
theorem tX6_wordNumber_10 {d : Nat} {l0 : Option Value} {x : Int32} {m : jmM} {Q : Option Value → jmM → Prop} : AW d 104 10 [l0] [.int x] m Q ↔ Q (some (.int x)) m := A_ireturn hB_X6_wordNumber dX6_wordNumber_10 hR_X6_wordNumber
theorem dX6_wordNumber_11 : decode cX6_wordNumber 11 = .ok (.aload_n 0, 1) := by decide +kernel
theorem tX6_wordNumber_11 {d : Nat} {x : Nat} {m : jmM} {Q : Option Value → jmM → Prop} : AW d 104 11 [some (.ref x)] [] m Q ↔ AW d 104 12 [some (.ref x)] [.ref x] m Q := A_aload_n hB_X6_wordNumber dX6_wordNumber_11 rfl
theorem dX6_wordNumber_12 : decode cX6_wordNumber 12 = .ok (.ldc 163, 2) := by decide +kernel
theorem tX6_wordNumber_12 {d : Nat} {l0 : Option Value} {v0 : Value} {m : jmM} {Q : Option Value → jmM → Prop} : AW d 104 12 [l0] [v0] m Q ↔ AW d 104 14 [l0] [.ref (jScr + 1 + 7), v0] m Q := A_ldcS hB_X6_wordNumber dX6_wordNumber_12 hO_X6_wordNumber fLn_6_163 fLs_6_163
theorem dX6_wordNumber_14 : decode cX6_wordNumber 14 = .ok (.invokevirtual 108, 3) := by decide +kernel
theorem tX6_wordNumber_14 {d : Nat} {l0 : Option Value} {y0 : Value} {a : Nat} {m : jmM} {Q : Option Value → jmM → Prop} : AW d 104 14 [l0] [y0, .ref a] m Q ↔ (mS m a).1 = 6 ∧ CC d 108 [.ref a, y0] m (jK d 104 17 [l0] [] Q) := A_callV hB_X6_wordNumber dX6_wordNumber_14 hO_X6_wordNumber fS_6_108 ⟨Nat.le_of_ble_eq_true rfl, Nat.le_of_ble_eq_true rfl⟩ rfl rfl rfl
theorem dX6_wordNumber_17 : decode cX6_wordNumber 17 = .ok (.ifCond .eq 5, 3) := by decide +kernel
theorem tX6_wordNumber_17 {d : Nat} {l0 : Option Value} {x : Int32} {m : jmM} {Q : Option Value → jmM → Prop} : AW d 104 17 [l0] [.int x] m Q ↔ if x = 0 then AW d 104 22 [l0] [] m Q else AW d 104 20 [l0] [] m Q := A_if_eq hB_X6_wordNumber dX6_wordNumber_17 (by decide)
theorem dX6_wordNumber_20 : decode cX6_wordNumber 20 = .ok (.iconst 1, 1) := by decide +kernel
theorem tX6_wordNumber_20 {d : Nat} {l0 : Option Value} {m : jmM} {Q : Option Value → jmM → Prop} : AW d 104 20 [l0] [] m Q ↔ AW d 104 21 [l0] [.int 1] m Q := A_iconst hB_X6_wordNumber dX6_wordNumber_20 (by decide)
theorem dX6_wordNumber_21 : decode cX6_wordNumber 21 = .ok (.ireturn, 1) := by decide +kernel
theorem tX6_wordNumber_21 {d : Nat} {l0 : Option Value} {x : Int32} {m : jmM} {Q : Option Value → jmM → Prop} : AW d 104 21 [l0] [.int x] m Q ↔ Q (some (.int x)) m := A_ireturn hB_X6_wordNumber dX6_wordNumber_21 hR_X6_wordNumber
theorem dX6_wordNumber_22 : decode cX6_wordNumber 22 = .ok (.aload_n 0, 1) := by decide +kernel
theorem tX6_wordNumber_22 {d : Nat} {x : Nat} {m : jmM} {Q : Option Value → jmM → Prop} : AW d 104 22 [some (.ref x)] [] m Q ↔ AW d 104 23 [some (.ref x)] [.ref x] m Q := A_aload_n hB_X6_wordNumber dX6_wordNumber_22 rfl
theorem dX6_wordNumber_23 : decode cX6_wordNumber 23 = .ok (.ldc 165, 2) := by decide +kernel
theorem tX6_wordNumber_23 {d : Nat} {l0 : Option Value} {v0 : Value} {m : jmM} {Q : Option Value → jmM → Prop} : AW d 104 23 [l0] [v0] m Q ↔ AW d 104 25 [l0] [.ref (jScr + 1 + 8), v0] m Q := A_ldcS hB_X6_wordNumber dX6_wordNumber_23 hO_X6_wordNumber fLn_6_165 fLs_6_165
theorem dX6_wordNumber_25 : decode cX6_wordNumber 25 = .ok (.invokevirtual 108, 3) := by decide +kernel
theorem tX6_wordNumber_25 {d : Nat} {l0 : Option Value} {y0 : Value} {a : Nat} {m : jmM} {Q : Option Value → jmM → Prop} : AW d 104 25 [l0] [y0, .ref a] m Q ↔ (mS m a).1 = 6 ∧ CC d 108 [.ref a, y0] m (jK d 104 28 [l0] [] Q) := A_callV hB_X6_wordNumber dX6_wordNumber_25 hO_X6_wordNumber fS_6_108 ⟨Nat.le_of_ble_eq_true rfl, Nat.le_of_ble_eq_true rfl⟩ rfl rfl rfl
theorem dX6_wordNumber_28 : decode cX6_wordNumber 28 = .ok (.ifCond .eq 5, 3) := by decide +kernel
theorem tX6_wordNumber_28 {d : Nat} {l0 : Option Value} {x : Int32} {m : jmM} {Q : Option Value → jmM → Prop} : AW d 104 28 [l0] [.int x] m Q ↔ if x = 0 then AW d 104 33 [l0] [] m Q else AW d 104 31 [l0] [] m Q := A_if_eq hB_X6_wordNumber dX6_wordNumber_28 (by decide)
theorem dX6_wordNumber_31 : decode cX6_wordNumber 31 = .ok (.iconst 2, 1) := by decide +kernel
theorem tX6_wordNumber_31 {d : Nat} {l0 : Option Value} {m : jmM} {Q : Option Value → jmM → Prop} : AW d 104 31 [l0] [] m Q ↔ AW d 104 32 [l0] [.int 2] m Q := A_iconst hB_X6_wordNumber dX6_wordNumber_31 (by decide)
theorem dX6_wordNumber_32 : decode cX6_wordNumber 32 = .ok (.ireturn, 1) := by decide +kernel
theorem tX6_wordNumber_32 {d : Nat} {l0 : Option Value} {x : Int32} {m : jmM} {Q : Option Value → jmM → Prop} : AW d 104 32 [l0] [.int x] m Q ↔ Q (some (.int x)) m := A_ireturn hB_X6_wordNumber dX6_wordNumber_32 hR_X6_wordNumber
theorem dX6_wordNumber_33 : decode cX6_wordNumber 33 = .ok (.aload_n 0, 1) := by decide +kernel
theorem tX6_wordNumber_33 {d : Nat} {x : Nat} {m : jmM} {Q : Option Value → jmM → Prop} : AW d 104 33 [some (.ref x)] [] m Q ↔ AW d 104 34 [some (.ref x)] [.ref x] m Q := A_aload_n hB_X6_wordNumber dX6_wordNumber_33 rfl
theorem dX6_wordNumber_34 : decode cX6_wordNumber 34 = .ok (.ldc 167, 2) := by decide +kernel
theorem tX6_wordNumber_34 {d : Nat} {l0 : Option Value} {v0 : Value} {m : jmM} {Q : Option Value → jmM → Prop} : AW d 104 34 [l0] [v0] m Q ↔ AW d 104 36 [l0] [.ref (jScr + 1 + 9), v0] m Q := A_ldcS hB_X6_wordNumber dX6_wordNumber_34 hO_X6_wordNumber fLn_6_167 fLs_6_167
theorem dX6_wordNumber_36 : decode cX6_wordNumber 36 = .ok (.invokevirtual 108, 3) := by decide +kernel
theorem tX6_wordNumber_36 {d : Nat} {l0 : Option Value} {y0 : Value} {a : Nat} {m : jmM} {Q : Option Value → jmM → Prop} : AW d 104 36 [l0] [y0, .ref a] m Q ↔ (mS m a).1 = 6 ∧ CC d 108 [.ref a, y0] m (jK d 104 39 [l0] [] Q) := A_callV hB_X6_wordNumber dX6_wordNumber_36 hO_X6_wordNumber fS_6_108 ⟨Nat.le_of_ble_eq_true rfl, Nat.le_of_ble_eq_true rfl⟩ rfl rfl rfl
theorem dX6_wordNumber_39 : decode cX6_wordNumber 39 = .ok (.ifCond .eq 5, 3) := by decide +kernel
theorem tX6_wordNumber_39 {d : Nat} {l0 : Option Value} {x : Int32} {m : jmM} {Q : Option Value → jmM → Prop} : AW d 104 39 [l0] [.int x] m Q ↔ if x = 0 then AW d 104 44 [l0] [] m Q else AW d 104 42 [l0] [] m Q := A_if_eq hB_X6_wordNumber dX6_wordNumber_39 (by decide)
theorem dX6_wordNumber_42 : decode cX6_wordNumber 42 = .ok (.iconst 3, 1) := by decide +kernel
theorem tX6_wordNumber_42 {d : Nat} {l0 : Option Value} {m : jmM} {Q : Option Value → jmM → Prop} : AW d 104 42 [l0] [] m Q ↔ AW d 104 43 [l0] [.int 3] m Q := A_iconst hB_X6_wordNumber dX6_wordNumber_42 (by decide)
theorem dX6_wordNumber_43 : decode cX6_wordNumber 43 = .ok (.ireturn, 1) := by decide +kernel
theorem tX6_wordNumber_43 {d : Nat} {l0 : Option Value} {x : Int32} {m : jmM} {Q : Option Value → jmM → Prop} : AW d 104 43 [l0] [.int x] m Q ↔ Q (some (.int x)) m := A_ireturn hB_X6_wordNumber dX6_wordNumber_43 hR_X6_wordNumber
theorem dX6_wordNumber_44 : decode cX6_wordNumber 44 = .ok (.aload_n 0, 1) := by decide +kernel
theorem tX6_wordNumber_44 {d : Nat} {x : Nat} {m : jmM} {Q : Option Value → jmM → Prop} : AW d 104 44 [some (.ref x)] [] m Q ↔ AW d 104 45 [some (.ref x)] [.ref x] m Q := A_aload_n hB_X6_wordNumber dX6_wordNumber_44 rfl
theorem dX6_wordNumber_45 : decode cX6_wordNumber 45 = .ok (.ldc 111, 2) := by decide +kernel
theorem tX6_wordNumber_45 {d : Nat} {l0 : Option Value} {v0 : Value} {m : jmM} {Q : Option Value → jmM → Prop} : AW d 104 45 [l0] [v0] m Q ↔ AW d 104 47 [l0] [.ref (jScr + 1 + 1), v0] m Q := A_ldcS hB_X6_wordNumber dX6_wordNumber_45 hO_X6_wordNumber fLn_6_111 fLs_6_111
theorem dX6_wordNumber_47 : decode cX6_wordNumber 47 = .ok (.invokevirtual 108, 3) := by decide +kernel
theorem tX6_wordNumber_47 {d : Nat} {l0 : Option Value} {y0 : Value} {a : Nat} {m : jmM} {Q : Option Value → jmM → Prop} : AW d 104 47 [l0] [y0, .ref a] m Q ↔ (mS m a).1 = 6 ∧ CC d 108 [.ref a, y0] m (jK d 104 50 [l0] [] Q) := A_callV hB_X6_wordNumber dX6_wordNumber_47 hO_X6_wordNumber fS_6_108 ⟨Nat.le_of_ble_eq_true rfl, Nat.le_of_ble_eq_true rfl⟩ rfl rfl rfl
theorem dX6_wordNumber_50 : decode cX6_wordNumber 50 = .ok (.ifCond .eq 5, 3) := by decide +kernel
theorem tX6_wordNumber_50 {d : Nat} {l0 : Option Value} {x : Int32} {m : jmM} {Q : Option Value → jmM → Prop} : AW d 104 50 [l0] [.int x] m Q ↔ if x = 0 then AW d 104 55 [l0] [] m Q else AW d 104 53 [l0] [] m Q := A_if_eq hB_X6_wordNumber dX6_wordNumber_50 (by decide)
theorem dX6_wordNumber_53 : decode cX6_wordNumber 53 = .ok (.iconst 4, 1) := by decide +kernel
theorem tX6_wordNumber_53 {d : Nat} {l0 : Option Value} {m : jmM} {Q : Option Value → jmM → Prop} : AW d 104 53 [l0] [] m Q ↔ AW d 104 54 [l0] [.int 4] m Q := A_iconst hB_X6_wordNumber dX6_wordNumber_53 (by decide)
theorem dX6_wordNumber_54 : decode cX6_wordNumber 54 = .ok (.ireturn, 1) := by decide +kernel
theorem tX6_wordNumber_54 {d : Nat} {l0 : Option Value} {x : Int32} {m : jmM} {Q : Option Value → jmM → Prop} : AW d 104 54 [l0] [.int x] m Q ↔ Q (some (.int x)) m := A_ireturn hB_X6_wordNumber dX6_wordNumber_54 hR_X6_wordNumber
theorem dX6_wordNumber_55 : decode cX6_wordNumber 55 = .ok (.aload_n 0, 1) := by decide +kernel
theorem tX6_wordNumber_55 {d : Nat} {x : Nat} {m : jmM} {Q : Option Value → jmM → Prop} : AW d 104 55 [some (.ref x)] [] m Q ↔ AW d 104 56 [some (.ref x)] [.ref x] m Q := A_aload_n hB_X6_wordNumber dX6_wordNumber_55 rfl
theorem dX6_wordNumber_56 : decode cX6_wordNumber 56 = .ok (.ldc 106, 2) := by decide +kernel
theorem tX6_wordNumber_56 {d : Nat} {l0 : Option Value} {v0 : Value} {m : jmM} {Q : Option Value → jmM → Prop} : AW d 104 56 [l0] [v0] m Q ↔ AW d 104 58 [l0] [.ref (jScr + 1 + 0), v0] m Q := A_ldcS hB_X6_wordNumber dX6_wordNumber_56 hO_X6_wordNumber fLn_6_106 fLs_6_106
theorem dX6_wordNumber_58 : decode cX6_wordNumber 58 = .ok (.invokevirtual 108, 3) := by decide +kernel
theorem tX6_wordNumber_58 {d : Nat} {l0 : Option Value} {y0 : Value} {a : Nat} {m : jmM} {Q : Option Value → jmM → Prop} : AW d 104 58 [l0] [y0, .ref a] m Q ↔ (mS m a).1 = 6 ∧ CC d 108 [.ref a, y0] m (jK d 104 61 [l0] [] Q) := A_callV hB_X6_wordNumber dX6_wordNumber_58 hO_X6_wordNumber fS_6_108 ⟨Nat.le_of_ble_eq_true rfl, Nat.le_of_ble_eq_true rfl⟩ rfl rfl rfl
theorem dX6_wordNumber_61 : decode cX6_wordNumber 61 = .ok (.ifCond .eq 5, 3) := by decide +kernel
theorem tX6_wordNumber_61 {d : Nat} {l0 : Option Value} {x : Int32} {m : jmM} {Q : Option Value → jmM → Prop} : AW d 104 61 [l0] [.int x] m Q ↔ if x = 0 then AW d 104 66 [l0] [] m Q else AW d 104 64 [l0] [] m Q := A_if_eq hB_X6_wordNumber dX6_wordNumber_61 (by decide)
theorem dX6_wordNumber_64 : decode cX6_wordNumber 64 = .ok (.iconst 5, 1) := by decide +kernel
theorem tX6_wordNumber_64 {d : Nat} {l0 : Option Value} {m : jmM} {Q : Option Value → jmM → Prop} : AW d 104 64 [l0] [] m Q ↔ AW d 104 65 [l0] [.int 5] m Q := A_iconst hB_X6_wordNumber dX6_wordNumber_64 (by decide)
theorem dX6_wordNumber_65 : decode cX6_wordNumber 65 = .ok (.ireturn, 1) := by decide +kernel
theorem tX6_wordNumber_65 {d : Nat} {l0 : Option Value} {x : Int32} {m : jmM} {Q : Option Value → jmM → Prop} : AW d 104 65 [l0] [.int x] m Q ↔ Q (some (.int x)) m := A_ireturn hB_X6_wordNumber dX6_wordNumber_65 hR_X6_wordNumber
theorem dX6_wordNumber_66 : decode cX6_wordNumber 66 = .ok (.aload_n 0, 1) := by decide +kernel
theorem tX6_wordNumber_66 {d : Nat} {x : Nat} {m : jmM} {Q : Option Value → jmM → Prop} : AW d 104 66 [some (.ref x)] [] m Q ↔ AW d 104 67 [some (.ref x)] [.ref x] m Q := A_aload_n hB_X6_wordNumber dX6_wordNumber_66 rfl
theorem dX6_wordNumber_67 : decode cX6_wordNumber 67 = .ok (.ldc 169, 2) := by decide +kernel
theorem tX6_wordNumber_67 {d : Nat} {l0 : Option Value} {v0 : Value} {m : jmM} {Q : Option Value → jmM → Prop} : AW d 104 67 [l0] [v0] m Q ↔ AW d 104 69 [l0] [.ref (jScr + 1 + 10), v0] m Q := A_ldcS hB_X6_wordNumber dX6_wordNumber_67 hO_X6_wordNumber fLn_6_169 fLs_6_169
theorem dX6_wordNumber_69 : decode cX6_wordNumber 69 = .ok (.invokevirtual 108, 3) := by decide +kernel
theorem tX6_wordNumber_69 {d : Nat} {l0 : Option Value} {y0 : Value} {a : Nat} {m : jmM} {Q : Option Value → jmM → Prop} : AW d 104 69 [l0] [y0, .ref a] m Q ↔ (mS m a).1 = 6 ∧ CC d 108 [.ref a, y0] m (jK d 104 72 [l0] [] Q) := A_callV hB_X6_wordNumber dX6_wordNumber_69 hO_X6_wordNumber fS_6_108 ⟨Nat.le_of_ble_eq_true rfl, Nat.le_of_ble_eq_true rfl⟩ rfl rfl rfl
theorem dX6_wordNumber_72 : decode cX6_wordNumber 72 = .ok (.ifCond .eq 6, 3) := by decide +kernel
theorem tX6_wordNumber_72 {d : Nat} {l0 : Option Value} {x : Int32} {m : jmM} {Q : Option Value → jmM → Prop} : AW d 104 72 [l0] [.int x] m Q ↔ if x = 0 then AW d 104 78 [l0] [] m Q else AW d 104 75 [l0] [] m Q := A_if_eq hB_X6_wordNumber dX6_wordNumber_72 (by decide)
theorem dX6_wordNumber_75 : decode cX6_wordNumber 75 = .ok (.bipush 6, 2) := by decide +kernel
theorem tX6_wordNumber_75 {d : Nat} {l0 : Option Value} {m : jmM} {Q : Option Value → jmM → Prop} : AW d 104 75 [l0] [] m Q ↔ AW d 104 77 [l0] [.int 6] m Q := A_bipush hB_X6_wordNumber dX6_wordNumber_75 rfl
theorem dX6_wordNumber_77 : decode cX6_wordNumber 77 = .ok (.ireturn, 1) := by decide +kernel
theorem tX6_wordNumber_77 {d : Nat} {l0 : Option Value} {x : Int32} {m : jmM} {Q : Option Value → jmM → Prop} : AW d 104 77 [l0] [.int x] m Q ↔ Q (some (.int x)) m := A_ireturn hB_X6_wordNumber dX6_wordNumber_77 hR_X6_wordNumber
theorem dX6_wordNumber_78 : decode cX6_wordNumber 78 = .ok (.aload_n 0, 1) := by decide +kernel
theorem tX6_wordNumber_78 {d : Nat} {x : Nat} {m : jmM} {Q : Option Value → jmM → Prop} : AW d 104 78 [some (.ref x)] [] m Q ↔ AW d 104 79 [some (.ref x)] [.ref x] m Q := A_aload_n hB_X6_wordNumber dX6_wordNumber_78 rfl
theorem dX6_wordNumber_79 : decode cX6_wordNumber 79 = .ok (.ldc 171, 2) := by decide +kernel
theorem tX6_wordNumber_79 {d : Nat} {l0 : Option Value} {v0 : Value} {m : jmM} {Q : Option Value → jmM → Prop} : AW d 104 79 [l0] [v0] m Q ↔ AW d 104 81 [l0] [.ref (jScr + 1 + 11), v0] m Q := A_ldcS hB_X6_wordNumber dX6_wordNumber_79 hO_X6_wordNumber fLn_6_171 fLs_6_171
theorem dX6_wordNumber_81 : decode cX6_wordNumber 81 = .ok (.invokevirtual 108, 3) := by decide +kernel
theorem tX6_wordNumber_81 {d : Nat} {l0 : Option Value} {y0 : Value} {a : Nat} {m : jmM} {Q : Option Value → jmM → Prop} : AW d 104 81 [l0] [y0, .ref a] m Q ↔ (mS m a).1 = 6 ∧ CC d 108 [.ref a, y0] m (jK d 104 84 [l0] [] Q) := A_callV hB_X6_wordNumber dX6_wordNumber_81 hO_X6_wordNumber fS_6_108 ⟨Nat.le_of_ble_eq_true rfl, Nat.le_of_ble_eq_true rfl⟩ rfl rfl rfl
theorem dX6_wordNumber_84 : decode cX6_wordNumber 84 = .ok (.ifCond .eq 6, 3) := by decide +kernel
theorem tX6_wordNumber_84 {d : Nat} {l0 : Option Value} {x : Int32} {m : jmM} {Q : Option Value → jmM → Prop} : AW d 104 84 [l0] [.int x] m Q ↔ if x = 0 then AW d 104 90 [l0] [] m Q else AW d 104 87 [l0] [] m Q := A_if_eq hB_X6_wordNumber dX6_wordNumber_84 (by decide)
theorem dX6_wordNumber_87 : decode cX6_wordNumber 87 = .ok (.bipush 7, 2) := by decide +kernel
theorem tX6_wordNumber_87 {d : Nat} {l0 : Option Value} {m : jmM} {Q : Option Value → jmM → Prop} : AW d 104 87 [l0] [] m Q ↔ AW d 104 89 [l0] [.int 7] m Q := A_bipush hB_X6_wordNumber dX6_wordNumber_87 rfl
theorem dX6_wordNumber_89 : decode cX6_wordNumber 89 = .ok (.ireturn, 1) := by decide +kernel
theorem tX6_wordNumber_89 {d : Nat} {l0 : Option Value} {x : Int32} {m : jmM} {Q : Option Value → jmM → Prop} : AW d 104 89 [l0] [.int x] m Q ↔ Q (some (.int x)) m := A_ireturn hB_X6_wordNumber dX6_wordNumber_89 hR_X6_wordNumber
theorem dX6_wordNumber_90 : decode cX6_wordNumber 90 = .ok (.aload_n 0, 1) := by decide +kernel
theorem tX6_wordNumber_90 {d : Nat} {x : Nat} {m : jmM} {Q : Option Value → jmM → Prop} : AW d 104 90 [some (.ref x)] [] m Q ↔ AW d 104 91 [some (.ref x)] [.ref x] m Q := A_aload_n hB_X6_wordNumber dX6_wordNumber_90 rfl
theorem dX6_wordNumber_91 : decode cX6_wordNumber 91 = .ok (.getfield 25, 3) := by decide +kernel
theorem tX6_wordNumber_91 {d : Nat} {l0 : Option Value} {a : Nat} {m : jmM} {Q : Option Value → jmM → Prop} : AW d 104 91 [l0] [.ref a] m Q ↔ (mS m a).1 = 6 ∧ AW d 104 94 [l0] [.int (mI m a 2)] m Q := A_getfield (f := fun m a => .int (mI m a 2)) hB_X6_wordNumber dX6_wordNumber_91 hO_X6_wordNumber fF_6_25 rfl
theorem dX6_wordNumber_94 : decode cX6_wordNumber 94 = .ok (.ifCond .eq 12, 3) := by decide +kernel
theorem tX6_wordNumber_94 {d : Nat} {l0 : Option Value} {x : Int32} {m : jmM} {Q : Option Value → jmM → Prop} : AW d 104 94 [l0] [.int x] m Q ↔ if x = 0 then AW d 104 106 [l0] [] m Q else AW d 104 97 [l0] [] m Q := A_if_eq hB_X6_wordNumber dX6_wordNumber_94 (by decide)
theorem dX6_wordNumber_97 : decode cX6_wordNumber 97 = .ok (.aload_n 0, 1) := by decide +kernel
theorem tX6_wordNumber_97 {d : Nat} {x : Nat} {m : jmM} {Q : Option Value → jmM → Prop} : AW d 104 97 [some (.ref x)] [] m Q ↔ AW d 104 98 [some (.ref x)] [.ref x] m Q := A_aload_n hB_X6_wordNumber dX6_wordNumber_97 rfl
theorem dX6_wordNumber_98 : decode cX6_wordNumber 98 = .ok (.ldc 113, 2) := by decide +kernel
theorem tX6_wordNumber_98 {d : Nat} {l0 : Option Value} {v0 : Value} {m : jmM} {Q : Option Value → jmM → Prop} : AW d 104 98 [l0] [v0] m Q ↔ AW d 104 100 [l0] [.ref (jScr + 1 + 2), v0] m Q := A_ldcS hB_X6_wordNumber dX6_wordNumber_98 hO_X6_wordNumber fLn_6_113 fLs_6_113
theorem dX6_wordNumber_100 : decode cX6_wordNumber 100 = .ok (.invokevirtual 108, 3) := by decide +kernel
theorem tX6_wordNumber_100 {d : Nat} {l0 : Option Value} {y0 : Value} {a : Nat} {m : jmM} {Q : Option Value → jmM → Prop} : AW d 104 100 [l0] [y0, .ref a] m Q ↔ (mS m a).1 = 6 ∧ CC d 108 [.ref a, y0] m (jK d 104 103 [l0] [] Q) := A_callV hB_X6_wordNumber dX6_wordNumber_100 hO_X6_wordNumber fS_6_108 ⟨Nat.le_of_ble_eq_true rfl, Nat.le_of_ble_eq_true rfl⟩ rfl rfl rfl
theorem dX6_wordNumber_103 : decode cX6_wordNumber 103 = .ok (.ifCond .ne 12, 3) := by decide +kernel
theorem tX6_wordNumber_103 {d : Nat} {l0 : Option Value} {x : Int32} {m : jmM} {Q : Option Value → jmM → Prop} : AW d 104 103 [l0] [.int x] m Q ↔ if x = 0 then AW d 104 106 [l0] [] m Q else AW d 104 115 [l0] [] m Q := A_if_ne hB_X6_wordNumber dX6_wordNumber_103 (by decide)
theorem dX6_wordNumber_106 : decode cX6_wordNumber 106 = .ok (.aload_n 0, 1) := by decide +kernel
theorem tX6_wordNumber_106 {d : Nat} {x : Nat} {m : jmM} {Q : Option Value → jmM → Prop} : AW d 104 106 [some (.ref x)] [] m Q ↔ AW d 104 107 [some (.ref x)] [.ref x] m Q := A_aload_n hB_X6_wordNumber dX6_wordNumber_106 rfl
theorem dX6_wordNumber_107 : decode cX6_wordNumber 107 = .ok (.aload_n 0, 1) := by decide +kernel
theorem tX6_wordNumber_107 {d : Nat} {v0 : Value} {x : Nat} {m : jmM} {Q : Option Value → jmM → Prop} : AW d 104 107 [some (.ref x)] [v0] m Q ↔ AW d 104 108 [some (.ref x)] [.ref x, v0] m Q := A_aload_n hB_X6_wordNumber dX6_wordNumber_107 rfl
theorem dX6_wordNumber_108 : decode cX6_wordNumber 108 = .ok (.getfield 29, 3) := by decide +kernel
theorem tX6_wordNumber_108 {d : Nat} {l0 : Option Value} {v1 : Value} {a : Nat} {m : jmM} {Q : Option Value → jmM → Prop} : AW d 104 108 [l0] [.ref a, v1] m Q ↔ (mS m a).1 = 6 ∧ AW d 104 111 [l0] [.int (mI m a 3), v1] m Q := A_getfield (f := fun m a => .int (mI m a 3)) hB_X6_wordNumber dX6_wordNumber_108 hO_X6_wordNumber fF_6_29 rfl
theorem dX6_wordNumber_111 : decode cX6_wordNumber 111 = .ok (.iconst 0, 1) := by decide +kernel
theorem tX6_wordNumber_111 {d : Nat} {l0 : Option Value} {v0 v1 : Value} {m : jmM} {Q : Option Value → jmM → Prop} : AW d 104 111 [l0] [v0, v1] m Q ↔ AW d 104 112 [l0] [.int 0, v0, v1] m Q := A_iconst hB_X6_wordNumber dX6_wordNumber_111 (by decide)
theorem dX6_wordNumber_112 : decode cX6_wordNumber 112 = .ok (.invokevirtual 69, 3) := by decide +kernel
theorem tX6_wordNumber_112 {d : Nat} {l0 : Option Value} {y0 y1 : Value} {a : Nat} {m : jmM} {Q : Option Value → jmM → Prop} : AW d 104 112 [l0] [y0, y1, .ref a] m Q ↔ (mS m a).1 = 6 ∧ CC d 91 [.ref a, y1, y0] m (jK d 104 115 [l0] [] Q) := A_callV hB_X6_wordNumber dX6_wordNumber_112 hO_X6_wordNumber fS_6_69 ⟨Nat.le_of_ble_eq_true rfl, Nat.le_of_ble_eq_true rfl⟩ rfl rfl rfl
theorem dX6_wordNumber_115 : decode cX6_wordNumber 115 = .ok (.bipush 8, 2) := by decide +kernel
theorem tX6_wordNumber_115 {d : Nat} {l0 : Option Value} {m : jmM} {Q : Option Value → jmM → Prop} : AW d 104 115 [l0] [] m Q ↔ AW d 104 117 [l0] [.int 8] m Q := A_bipush hB_X6_wordNumber dX6_wordNumber_115 rfl
theorem dX6_wordNumber_117 : decode cX6_wordNumber 117 = .ok (.ireturn, 1) := by decide +kernel
theorem tX6_wordNumber_117 {d : Nat} {l0 : Option Value} {x : Int32} {m : jmM} {Q : Option Value → jmM → Prop} : AW d 104 117 [l0] [.int x] m Q ↔ Q (some (.int x)) m := A_ireturn hB_X6_wordNumber dX6_wordNumber_117 hR_X6_wordNumber
theorem hB_X6_nextByte : jB 105 = cX6_nextByte := rfl
theorem hO_X6_nextByte : jO 105 = 6 := rfl
theorem hR_X6_nextByte : jRt 105 = (some .int) := rfl
theorem nX6_nextByte (d : Nat) (x0 : Nat) (m : jmM) (Q : Option Value → jmM → Prop) : CC (d + 1) 105 [.ref x0] m Q ↔ AW d 105 0 [some (.ref x0)] [] m Q := CC_body (Nat.le_of_ble_eq_true rfl)
theorem dX6_nextByte_0 : decode cX6_nextByte 0 = .ok (.aload_n 0, 1) := by decide +kernel
theorem tX6_nextByte_0 {d : Nat} {x : Nat} {m : jmM} {Q : Option Value → jmM → Prop} : AW d 105 0 [some (.ref x)] [] m Q ↔ AW d 105 1 [some (.ref x)] [.ref x] m Q := A_aload_n hB_X6_nextByte dX6_nextByte_0 rfl
theorem dX6_nextByte_1 : decode cX6_nextByte 1 = .ok (.getfield 29, 3) := by decide +kernel
theorem tX6_nextByte_1 {d : Nat} {l0 : Option Value} {a : Nat} {m : jmM} {Q : Option Value → jmM → Prop} : AW d 105 1 [l0] [.ref a] m Q ↔ (mS m a).1 = 6 ∧ AW d 105 4 [l0] [.int (mI m a 3)] m Q := A_getfield (f := fun m a => .int (mI m a 3)) hB_X6_nextByte dX6_nextByte_1 hO_X6_nextByte fF_6_29 rfl
theorem dX6_nextByte_4 : decode cX6_nextByte 4 = .ok (.sipush 400, 3) := by decide +kernel
theorem tX6_nextByte_4 {d : Nat} {l0 : Option Value} {v0 : Value} {m : jmM} {Q : Option Value → jmM → Prop} : AW d 105 4 [l0] [v0] m Q ↔ AW d 105 7 [l0] [.int 400, v0] m Q := A_sipush hB_X6_nextByte dX6_nextByte_4 rfl
theorem dX6_nextByte_7 : decode cX6_nextByte 7 = .ok (.if_icmp .ge 32, 3) := by decide +kernel
theorem tX6_nextByte_7 {d : Nat} {l0 : Option Value} {x y : Int32} {m : jmM} {Q : Option Value → jmM → Prop} : AW d 105 7 [l0] [.int y, .int x] m Q ↔ if y ≤ x then AW d 105 39 [l0] [] m Q else AW d 105 10 [l0] [] m Q := A_icmp_ge hB_X6_nextByte dX6_nextByte_7 (by decide)
theorem dX6_nextByte_10 : decode cX6_nextByte 10 = .ok (.aload_n 0, 1) := by decide +kernel
theorem tX6_nextByte_10 {d : Nat} {x : Nat} {m : jmM} {Q : Option Value → jmM → Prop} : AW d 105 10 [some (.ref x)] [] m Q ↔ AW d 105 11 [some (.ref x)] [.ref x] m Q := A_aload_n hB_X6_nextByte dX6_nextByte_10 rfl
theorem dX6_nextByte_11 : decode cX6_nextByte 11 = .ok (.getfield 12, 3) := by decide +kernel
theorem tX6_nextByte_11 {d : Nat} {l0 : Option Value} {a : Nat} {m : jmM} {Q : Option Value → jmM → Prop} : AW d 105 11 [l0] [.ref a] m Q ↔ (mS m a).1 = 6 ∧ AW d 105 14 [l0] [va_rf (mR m a 0)] m Q := A_getfield (f := fun m a => va_rf (mR m a 0)) hB_X6_nextByte dX6_nextByte_11 hO_X6_nextByte fF_6_12 rfl
theorem dX6_nextByte_14 : decode cX6_nextByte 14 = .ok (.aload_n 0, 1) := by decide +kernel
theorem tX6_nextByte_14 {d : Nat} {v0 : Value} {x : Nat} {m : jmM} {Q : Option Value → jmM → Prop} : AW d 105 14 [some (.ref x)] [v0] m Q ↔ AW d 105 15 [some (.ref x)] [.ref x, v0] m Q := A_aload_n hB_X6_nextByte dX6_nextByte_14 rfl
theorem dX6_nextByte_15 : decode cX6_nextByte 15 = .ok (.getfield 29, 3) := by decide +kernel
theorem tX6_nextByte_15 {d : Nat} {l0 : Option Value} {v1 : Value} {a : Nat} {m : jmM} {Q : Option Value → jmM → Prop} : AW d 105 15 [l0] [.ref a, v1] m Q ↔ (mS m a).1 = 6 ∧ AW d 105 18 [l0] [.int (mI m a 3), v1] m Q := A_getfield (f := fun m a => .int (mI m a 3)) hB_X6_nextByte dX6_nextByte_15 hO_X6_nextByte fF_6_29 rfl
theorem dX6_nextByte_18 : decode cX6_nextByte 18 = .ok (.invokevirtual 145, 3) := by decide +kernel
theorem tX6_nextByte_18 {d : Nat} {l0 : Option Value} {y0 : Value} {a : Nat} {m : jmM} {Q : Option Value → jmM → Prop} : AW d 105 18 [l0] [y0, .ref a] m Q ↔ (mS m a).1 = 9 ∧ CC d 134 [.ref a, y0] m (jK d 105 21 [l0] [] Q) := A_callV hB_X6_nextByte dX6_nextByte_18 hO_X6_nextByte fS_6_145 ⟨Nat.le_of_ble_eq_true rfl, Nat.le_of_ble_eq_true rfl⟩ rfl rfl rfl
theorem dX6_nextByte_21 : decode cX6_nextByte 21 = .ok (.bipush 32, 2) := by decide +kernel
theorem tX6_nextByte_21 {d : Nat} {l0 : Option Value} {v0 : Value} {m : jmM} {Q : Option Value → jmM → Prop} : AW d 105 21 [l0] [v0] m Q ↔ AW d 105 23 [l0] [.int 32, v0] m Q := A_bipush hB_X6_nextByte dX6_nextByte_21 rfl
theorem dX6_nextByte_23 : decode cX6_nextByte 23 = .ok (.if_icmp .ne 16, 3) := by decide +kernel
theorem tX6_nextByte_23 {d : Nat} {l0 : Option Value} {x y : Int32} {m : jmM} {Q : Option Value → jmM → Prop} : AW d 105 23 [l0] [.int y, .int x] m Q ↔ if x = y then AW d 105 26 [l0] [] m Q else AW d 105 39 [l0] [] m Q := A_icmp_ne hB_X6_nextByte dX6_nextByte_23 (by decide)
theorem dX6_nextByte_26 : decode cX6_nextByte 26 = .ok (.aload_n 0, 1) := by decide +kernel
theorem tX6_nextByte_26 {d : Nat} {x : Nat} {m : jmM} {Q : Option Value → jmM → Prop} : AW d 105 26 [some (.ref x)] [] m Q ↔ AW d 105 27 [some (.ref x)] [.ref x] m Q := A_aload_n hB_X6_nextByte dX6_nextByte_26 rfl
theorem dX6_nextByte_27 : decode cX6_nextByte 27 = .ok (.dup, 1) := by decide +kernel
theorem tX6_nextByte_27 {d : Nat} {l0 : Option Value} {x : Nat} {m : jmM} {Q : Option Value → jmM → Prop} : AW d 105 27 [l0] [.ref x] m Q ↔ AW d 105 28 [l0] [.ref x, .ref x] m Q := A_dup_a hB_X6_nextByte dX6_nextByte_27
theorem dX6_nextByte_28 : decode cX6_nextByte 28 = .ok (.getfield 29, 3) := by decide +kernel
theorem tX6_nextByte_28 {d : Nat} {l0 : Option Value} {v1 : Value} {a : Nat} {m : jmM} {Q : Option Value → jmM → Prop} : AW d 105 28 [l0] [.ref a, v1] m Q ↔ (mS m a).1 = 6 ∧ AW d 105 31 [l0] [.int (mI m a 3), v1] m Q := A_getfield (f := fun m a => .int (mI m a 3)) hB_X6_nextByte dX6_nextByte_28 hO_X6_nextByte fF_6_29 rfl
theorem dX6_nextByte_31 : decode cX6_nextByte 31 = .ok (.iconst 1, 1) := by decide +kernel
theorem tX6_nextByte_31 {d : Nat} {l0 : Option Value} {v0 v1 : Value} {m : jmM} {Q : Option Value → jmM → Prop} : AW d 105 31 [l0] [v0, v1] m Q ↔ AW d 105 32 [l0] [.int 1, v0, v1] m Q := A_iconst hB_X6_nextByte dX6_nextByte_31 (by decide)
theorem dX6_nextByte_32 : decode cX6_nextByte 32 = .ok (.iadd, 1) := by decide +kernel
theorem tX6_nextByte_32 {d : Nat} {l0 : Option Value} {v2 : Value} {x y : Int32} {m : jmM} {Q : Option Value → jmM → Prop} : AW d 105 32 [l0] [.int y, .int x, v2] m Q ↔ AW d 105 33 [l0] [.int (x + y), v2] m Q := A_iadd hB_X6_nextByte dX6_nextByte_32
theorem dX6_nextByte_33 : decode cX6_nextByte 33 = .ok (.putfield 29, 3) := by decide +kernel
theorem tX6_nextByte_33 {d : Nat} {l0 : Option Value} {x : Int32} {a : Nat} {m : jmM} {Q : Option Value → jmM → Prop} : AW d 105 33 [l0] [.int x, .ref a] m Q ↔ (mS m a).1 = 6 ∧ AW d 105 36 [l0] [] (cI m a (jup (mI m a) 3 x)) Q := A_putI hB_X6_nextByte dX6_nextByte_33 hO_X6_nextByte fF_6_29 rfl (fun h => Bool.noConfusion h)
theorem dX6_nextByte_36 : decode cX6_nextByte 36 = .ok (.goto (-36), 3) := by decide +kernel
theorem tX6_nextByte_36 {d : Nat} {l0 : Option Value} {m : jmM} {Q : Option Value → jmM → Prop} : AW d 105 36 [l0] [] m Q ↔ AW d 105 0 [l0] [] m Q := A_goto hB_X6_nextByte dX6_nextByte_36 (by decide)
theorem dX6_nextByte_39 : decode cX6_nextByte 39 = .ok (.aload_n 0, 1) := by decide +kernel
theorem tX6_nextByte_39 {d : Nat} {x : Nat} {m : jmM} {Q : Option Value → jmM → Prop} : AW d 105 39 [some (.ref x)] [] m Q ↔ AW d 105 40 [some (.ref x)] [.ref x] m Q := A_aload_n hB_X6_nextByte dX6_nextByte_39 rfl
theorem dX6_nextByte_40 : decode cX6_nextByte 40 = .ok (.getfield 12, 3) := by decide +kernel
theorem tX6_nextByte_40 {d : Nat} {l0 : Option Value} {a : Nat} {m : jmM} {Q : Option Value → jmM → Prop} : AW d 105 40 [l0] [.ref a] m Q ↔ (mS m a).1 = 6 ∧ AW d 105 43 [l0] [va_rf (mR m a 0)] m Q := A_getfield (f := fun m a => va_rf (mR m a 0)) hB_X6_nextByte dX6_nextByte_40 hO_X6_nextByte fF_6_12 rfl
theorem dX6_nextByte_43 : decode cX6_nextByte 43 = .ok (.aload_n 0, 1) := by decide +kernel
theorem tX6_nextByte_43 {d : Nat} {v0 : Value} {x : Nat} {m : jmM} {Q : Option Value → jmM → Prop} : AW d 105 43 [some (.ref x)] [v0] m Q ↔ AW d 105 44 [some (.ref x)] [.ref x, v0] m Q := A_aload_n hB_X6_nextByte dX6_nextByte_43 rfl
theorem dX6_nextByte_44 : decode cX6_nextByte 44 = .ok (.getfield 29, 3) := by decide +kernel
theorem tX6_nextByte_44 {d : Nat} {l0 : Option Value} {v1 : Value} {a : Nat} {m : jmM} {Q : Option Value → jmM → Prop} : AW d 105 44 [l0] [.ref a, v1] m Q ↔ (mS m a).1 = 6 ∧ AW d 105 47 [l0] [.int (mI m a 3), v1] m Q := A_getfield (f := fun m a => .int (mI m a 3)) hB_X6_nextByte dX6_nextByte_44 hO_X6_nextByte fF_6_29 rfl
theorem dX6_nextByte_47 : decode cX6_nextByte 47 = .ok (.invokevirtual 145, 3) := by decide +kernel
theorem tX6_nextByte_47 {d : Nat} {l0 : Option Value} {y0 : Value} {a : Nat} {m : jmM} {Q : Option Value → jmM → Prop} : AW d 105 47 [l0] [y0, .ref a] m Q ↔ (mS m a).1 = 9 ∧ CC d 134 [.ref a, y0] m (jK d 105 50 [l0] [] Q) := A_callV hB_X6_nextByte dX6_nextByte_47 hO_X6_nextByte fS_6_145 ⟨Nat.le_of_ble_eq_true rfl, Nat.le_of_ble_eq_true rfl⟩ rfl rfl rfl
theorem dX6_nextByte_50 : decode cX6_nextByte 50 = .ok (.ireturn, 1) := by decide +kernel
theorem tX6_nextByte_50 {d : Nat} {l0 : Option Value} {x : Int32} {m : jmM} {Q : Option Value → jmM → Prop} : AW d 105 50 [l0] [.int x] m Q ↔ Q (some (.int x)) m := A_ireturn hB_X6_nextByte dX6_nextByte_50 hR_X6_nextByte
theorem hB_X6_expect : jB 106 = cX6_expect := rfl
theorem hO_X6_expect : jO 106 = 6 := rfl
theorem hR_X6_expect : jRt 106 = none := rfl
theorem nX6_expect (d : Nat) (x0 : Nat) (x1 : Int32) (m : jmM) (Q : Option Value → jmM → Prop) : CC (d + 1) 106 [.ref x0, .int x1] m Q ↔ AW d 106 0 [some (.ref x0), some (.int x1)] [] m Q := CC_body (Nat.le_of_ble_eq_true rfl)
theorem dX6_expect_0 : decode cX6_expect 0 = .ok (.aload_n 0, 1) := by decide +kernel
theorem tX6_expect_0 {d : Nat} {l1 : Option Value} {x : Nat} {m : jmM} {Q : Option Value → jmM → Prop} : AW d 106 0 [some (.ref x), l1] [] m Q ↔ AW d 106 1 [some (.ref x), l1] [.ref x] m Q := A_aload_n hB_X6_expect dX6_expect_0 rfl
theorem dX6_expect_1 : decode cX6_expect 1 = .ok (.invokevirtual 52, 3) := by decide +kernel
theorem tX6_expect_1 {d : Nat} {l0 l1 : Option Value} {a : Nat} {m : jmM} {Q : Option Value → jmM → Prop} : AW d 106 1 [l0, l1] [.ref a] m Q ↔ (mS m a).1 = 6 ∧ CC d 105 [.ref a] m (jK d 106 4 [l0, l1] [] Q) := A_callV hB_X6_expect dX6_expect_1 hO_X6_expect fS_6_52 ⟨Nat.le_of_ble_eq_true rfl, Nat.le_of_ble_eq_true rfl⟩ rfl rfl rfl
theorem dX6_expect_4 : decode cX6_expect 4 = .ok (.iload_n 1, 1) := by decide +kernel
theorem tX6_expect_4 {d : Nat} {l0 : Option Value} {v0 : Value} {x : Int32} {m : jmM} {Q : Option Value → jmM → Prop} : AW d 106 4 [l0, some (.int x)] [v0] m Q ↔ AW d 106 5 [l0, some (.int x)] [.int x, v0] m Q := A_iload_n hB_X6_expect dX6_expect_4 rfl
theorem dX6_expect_5 : decode cX6_expect 5 = .ok (.if_icmp .ne 16, 3) := by decide +kernel
theorem tX6_expect_5 {d : Nat} {l0 l1 : Option Value} {x y : Int32} {m : jmM} {Q : Option Value → jmM → Prop} : AW d 106 5 [l0, l1] [.int y, .int x] m Q ↔ if x = y then AW d 106 8 [l0, l1] [] m Q else AW d 106 21 [l0, l1] [] m Q := A_icmp_ne hB_X6_expect dX6_expect_5 (by decide)
theorem dX6_expect_8 : decode cX6_expect 8 = .ok (.aload_n 0, 1) := by decide +kernel
theorem tX6_expect_8 {d : Nat} {l1 : Option Value} {x : Nat} {m : jmM} {Q : Option Value → jmM → Prop} : AW d 106 8 [some (.ref x), l1] [] m Q ↔ AW d 106 9 [some (.ref x), l1] [.ref x] m Q := A_aload_n hB_X6_expect dX6_expect_8 rfl
theorem dX6_expect_9 : decode cX6_expect 9 = .ok (.dup, 1) := by decide +kernel
theorem tX6_expect_9 {d : Nat} {l0 l1 : Option Value} {x : Nat} {m : jmM} {Q : Option Value → jmM → Prop} : AW d 106 9 [l0, l1] [.ref x] m Q ↔ AW d 106 10 [l0, l1] [.ref x, .ref x] m Q := A_dup_a hB_X6_expect dX6_expect_9
theorem dX6_expect_10 : decode cX6_expect 10 = .ok (.getfield 29, 3) := by decide +kernel
theorem tX6_expect_10 {d : Nat} {l0 l1 : Option Value} {v1 : Value} {a : Nat} {m : jmM} {Q : Option Value → jmM → Prop} : AW d 106 10 [l0, l1] [.ref a, v1] m Q ↔ (mS m a).1 = 6 ∧ AW d 106 13 [l0, l1] [.int (mI m a 3), v1] m Q := A_getfield (f := fun m a => .int (mI m a 3)) hB_X6_expect dX6_expect_10 hO_X6_expect fF_6_29 rfl
theorem dX6_expect_13 : decode cX6_expect 13 = .ok (.iconst 1, 1) := by decide +kernel
theorem tX6_expect_13 {d : Nat} {l0 l1 : Option Value} {v0 v1 : Value} {m : jmM} {Q : Option Value → jmM → Prop} : AW d 106 13 [l0, l1] [v0, v1] m Q ↔ AW d 106 14 [l0, l1] [.int 1, v0, v1] m Q := A_iconst hB_X6_expect dX6_expect_13 (by decide)
theorem dX6_expect_14 : decode cX6_expect 14 = .ok (.iadd, 1) := by decide +kernel
theorem tX6_expect_14 {d : Nat} {l0 l1 : Option Value} {v2 : Value} {x y : Int32} {m : jmM} {Q : Option Value → jmM → Prop} : AW d 106 14 [l0, l1] [.int y, .int x, v2] m Q ↔ AW d 106 15 [l0, l1] [.int (x + y), v2] m Q := A_iadd hB_X6_expect dX6_expect_14
theorem dX6_expect_15 : decode cX6_expect 15 = .ok (.putfield 29, 3) := by decide +kernel
theorem tX6_expect_15 {d : Nat} {l0 l1 : Option Value} {x : Int32} {a : Nat} {m : jmM} {Q : Option Value → jmM → Prop} : AW d 106 15 [l0, l1] [.int x, .ref a] m Q ↔ (mS m a).1 = 6 ∧ AW d 106 18 [l0, l1] [] (cI m a (jup (mI m a) 3 x)) Q := A_putI hB_X6_expect dX6_expect_15 hO_X6_expect fF_6_29 rfl (fun h => Bool.noConfusion h)
theorem dX6_expect_18 : decode cX6_expect 18 = .ok (.goto 12, 3) := by decide +kernel
theorem tX6_expect_18 {d : Nat} {l0 l1 : Option Value} {m : jmM} {Q : Option Value → jmM → Prop} : AW d 106 18 [l0, l1] [] m Q ↔ AW d 106 30 [l0, l1] [] m Q := A_goto hB_X6_expect dX6_expect_18 (by decide)
theorem dX6_expect_21 : decode cX6_expect 21 = .ok (.aload_n 0, 1) := by decide +kernel
theorem tX6_expect_21 {d : Nat} {l1 : Option Value} {x : Nat} {m : jmM} {Q : Option Value → jmM → Prop} : AW d 106 21 [some (.ref x), l1] [] m Q ↔ AW d 106 22 [some (.ref x), l1] [.ref x] m Q := A_aload_n hB_X6_expect dX6_expect_21 rfl
theorem dX6_expect_22 : decode cX6_expect 22 = .ok (.aload_n 0, 1) := by decide +kernel
theorem tX6_expect_22 {d : Nat} {l1 : Option Value} {v0 : Value} {x : Nat} {m : jmM} {Q : Option Value → jmM → Prop} : AW d 106 22 [some (.ref x), l1] [v0] m Q ↔ AW d 106 23 [some (.ref x), l1] [.ref x, v0] m Q := A_aload_n hB_X6_expect dX6_expect_22 rfl
theorem dX6_expect_23 : decode cX6_expect 23 = .ok (.getfield 29, 3) := by decide +kernel
theorem tX6_expect_23 {d : Nat} {l0 l1 : Option Value} {v1 : Value} {a : Nat} {m : jmM} {Q : Option Value → jmM → Prop} : AW d 106 23 [l0, l1] [.ref a, v1] m Q ↔ (mS m a).1 = 6 ∧ AW d 106 26 [l0, l1] [.int (mI m a 3), v1] m Q := A_getfield (f := fun m a => .int (mI m a 3)) hB_X6_expect dX6_expect_23 hO_X6_expect fF_6_29 rfl
theorem dX6_expect_26 : decode cX6_expect 26 = .ok (.iconst 0, 1) := by decide +kernel
theorem tX6_expect_26 {d : Nat} {l0 l1 : Option Value} {v0 v1 : Value} {m : jmM} {Q : Option Value → jmM → Prop} : AW d 106 26 [l0, l1] [v0, v1] m Q ↔ AW d 106 27 [l0, l1] [.int 0, v0, v1] m Q := A_iconst hB_X6_expect dX6_expect_26 (by decide)
theorem dX6_expect_27 : decode cX6_expect 27 = .ok (.invokevirtual 69, 3) := by decide +kernel
theorem tX6_expect_27 {d : Nat} {l0 l1 : Option Value} {y0 y1 : Value} {a : Nat} {m : jmM} {Q : Option Value → jmM → Prop} : AW d 106 27 [l0, l1] [y0, y1, .ref a] m Q ↔ (mS m a).1 = 6 ∧ CC d 91 [.ref a, y1, y0] m (jK d 106 30 [l0, l1] [] Q) := A_callV hB_X6_expect dX6_expect_27 hO_X6_expect fS_6_69 ⟨Nat.le_of_ble_eq_true rfl, Nat.le_of_ble_eq_true rfl⟩ rfl rfl rfl
theorem dX6_expect_30 : decode cX6_expect 30 = .ok (.return_, 1) := by decide +kernel
theorem tX6_expect_30 {d : Nat} {l0 l1 : Option Value} {m : jmM} {Q : Option Value → jmM → Prop} : AW d 106 30 [l0, l1] [] m Q ↔ Q none m := A_return hB_X6_expect dX6_expect_30 hR_X6_expect
theorem hB_X6_takesWord : jB 107 = cX6_takesWord := rfl
theorem hO_X6_takesWord : jO 107 = 6 := rfl
theorem hR_X6_takesWord : jRt 107 = (some .boolean) := rfl
theorem nX6_takesWord (d : Nat) (x0 : Nat) (x1 : Nat) (m : jmM) (Q : Option Value → jmM → Prop) : CC (d + 1) 107 [.ref x0, .ref x1] m Q ↔ AW d 107 0 [some (.ref x0), some (.ref x1)] [] m Q := CC_body (Nat.le_of_ble_eq_true rfl)
theorem dX6_takesWord_0 : decode cX6_takesWord 0 = .ok (.aload_n 0, 1) := by decide +kernel
theorem tX6_takesWord_0 {d : Nat} {l1 : Option Value} {x : Nat} {m : jmM} {Q : Option Value → jmM → Prop} : AW d 107 0 [some (.ref x), l1] [] m Q ↔ AW d 107 1 [some (.ref x), l1] [.ref x] m Q := A_aload_n hB_X6_takesWord dX6_takesWord_0 rfl
theorem dX6_takesWord_1 : decode cX6_takesWord 1 = .ok (.invokevirtual 52, 3) := by decide +kernel
theorem tX6_takesWord_1 {d : Nat} {l0 l1 : Option Value} {a : Nat} {m : jmM} {Q : Option Value → jmM → Prop} : AW d 107 1 [l0, l1] [.ref a] m Q ↔ (mS m a).1 = 6 ∧ CC d 105 [.ref a] m (jK d 107 4 [l0, l1] [] Q) := A_callV hB_X6_takesWord dX6_takesWord_1 hO_X6_takesWord fS_6_52 ⟨Nat.le_of_ble_eq_true rfl, Nat.le_of_ble_eq_true rfl⟩ rfl rfl rfl
theorem dX6_takesWord_4 : decode cX6_takesWord 4 = .ok (.pop, 1) := by decide +kernel
theorem tX6_takesWord_4 {d : Nat} {l0 l1 : Option Value} {x : Int32} {m : jmM} {Q : Option Value → jmM → Prop} : AW d 107 4 [l0, l1] [.int x] m Q ↔ AW d 107 5 [l0, l1] [] m Q := A_pop_i hB_X6_takesWord dX6_takesWord_4
theorem dX6_takesWord_5 : decode cX6_takesWord 5 = .ok (.aload_n 0, 1) := by decide +kernel
theorem tX6_takesWord_5 {d : Nat} {l1 : Option Value} {x : Nat} {m : jmM} {Q : Option Value → jmM → Prop} : AW d 107 5 [some (.ref x), l1] [] m Q ↔ AW d 107 6 [some (.ref x), l1] [.ref x] m Q := A_aload_n hB_X6_takesWord dX6_takesWord_5 rfl
theorem dX6_takesWord_6 : decode cX6_takesWord 6 = .ok (.getfield 36, 3) := by decide +kernel
theorem tX6_takesWord_6 {d : Nat} {l0 l1 : Option Value} {a : Nat} {m : jmM} {Q : Option Value → jmM → Prop} : AW d 107 6 [l0, l1] [.ref a] m Q ↔ (mS m a).1 = 6 ∧ AW d 107 9 [l0, l1] [.int (mI m a 5)] m Q := A_getfield (f := fun m a => .int (mI m a 5)) hB_X6_takesWord dX6_takesWord_6 hO_X6_takesWord fF_6_36 rfl
theorem dX6_takesWord_9 : decode cX6_takesWord 9 = .ok (.ifCond .ne 11, 3) := by decide +kernel
theorem tX6_takesWord_9 {d : Nat} {l0 l1 : Option Value} {x : Int32} {m : jmM} {Q : Option Value → jmM → Prop} : AW d 107 9 [l0, l1] [.int x] m Q ↔ if x = 0 then AW d 107 12 [l0, l1] [] m Q else AW d 107 20 [l0, l1] [] m Q := A_if_ne hB_X6_takesWord dX6_takesWord_9 (by decide)
theorem dX6_takesWord_12 : decode cX6_takesWord 12 = .ok (.aload_n 0, 1) := by decide +kernel
theorem tX6_takesWord_12 {d : Nat} {l1 : Option Value} {x : Nat} {m : jmM} {Q : Option Value → jmM → Prop} : AW d 107 12 [some (.ref x), l1] [] m Q ↔ AW d 107 13 [some (.ref x), l1] [.ref x] m Q := A_aload_n hB_X6_takesWord dX6_takesWord_12 rfl
theorem dX6_takesWord_13 : decode cX6_takesWord 13 = .ok (.aload_n 1, 1) := by decide +kernel
theorem tX6_takesWord_13 {d : Nat} {l0 : Option Value} {v0 : Value} {x : Nat} {m : jmM} {Q : Option Value → jmM → Prop} : AW d 107 13 [l0, some (.ref x)] [v0] m Q ↔ AW d 107 14 [l0, some (.ref x)] [.ref x, v0] m Q := A_aload_n hB_X6_takesWord dX6_takesWord_13 rfl
theorem dX6_takesWord_14 : decode cX6_takesWord 14 = .ok (.invokevirtual 108, 3) := by decide +kernel
theorem tX6_takesWord_14 {d : Nat} {l0 l1 : Option Value} {y0 : Value} {a : Nat} {m : jmM} {Q : Option Value → jmM → Prop} : AW d 107 14 [l0, l1] [y0, .ref a] m Q ↔ (mS m a).1 = 6 ∧ CC d 108 [.ref a, y0] m (jK d 107 17 [l0, l1] [] Q) := A_callV hB_X6_takesWord dX6_takesWord_14 hO_X6_takesWord fS_6_108 ⟨Nat.le_of_ble_eq_true rfl, Nat.le_of_ble_eq_true rfl⟩ rfl rfl rfl
theorem dX6_takesWord_17 : decode cX6_takesWord 17 = .ok (.ifCond .ne 5, 3) := by decide +kernel
theorem tX6_takesWord_17 {d : Nat} {l0 l1 : Option Value} {x : Int32} {m : jmM} {Q : Option Value → jmM → Prop} : AW d 107 17 [l0, l1] [.int x] m Q ↔ if x = 0 then AW d 107 20 [l0, l1] [] m Q else AW d 107 22 [l0, l1] [] m Q := A_if_ne hB_X6_takesWord dX6_takesWord_17 (by decide)
theorem dX6_takesWord_20 : decode cX6_takesWord 20 = .ok (.iconst 0, 1) := by decide +kernel
theorem tX6_takesWord_20 {d : Nat} {l0 l1 : Option Value} {m : jmM} {Q : Option Value → jmM → Prop} : AW d 107 20 [l0, l1] [] m Q ↔ AW d 107 21 [l0, l1] [.int 0] m Q := A_iconst hB_X6_takesWord dX6_takesWord_20 (by decide)
theorem dX6_takesWord_21 : decode cX6_takesWord 21 = .ok (.ireturn, 1) := by decide +kernel
theorem tX6_takesWord_21 {d : Nat} {l0 l1 : Option Value} {x : Int32} {m : jmM} {Q : Option Value → jmM → Prop} : AW d 107 21 [l0, l1] [.int x] m Q ↔ jBool x ∧ Q (some (.int x)) m := A_zreturn hB_X6_takesWord dX6_takesWord_21 hR_X6_takesWord
theorem dX6_takesWord_22 : decode cX6_takesWord 22 = .ok (.aload_n 0, 1) := by decide +kernel
theorem tX6_takesWord_22 {d : Nat} {l1 : Option Value} {x : Nat} {m : jmM} {Q : Option Value → jmM → Prop} : AW d 107 22 [some (.ref x), l1] [] m Q ↔ AW d 107 23 [some (.ref x), l1] [.ref x] m Q := A_aload_n hB_X6_takesWord dX6_takesWord_22 rfl
theorem dX6_takesWord_23 : decode cX6_takesWord 23 = .ok (.aload_n 0, 1) := by decide +kernel
theorem tX6_takesWord_23 {d : Nat} {l1 : Option Value} {v0 : Value} {x : Nat} {m : jmM} {Q : Option Value → jmM → Prop} : AW d 107 23 [some (.ref x), l1] [v0] m Q ↔ AW d 107 24 [some (.ref x), l1] [.ref x, v0] m Q := A_aload_n hB_X6_takesWord dX6_takesWord_23 rfl
theorem dX6_takesWord_24 : decode cX6_takesWord 24 = .ok (.invokevirtual 77, 3) := by decide +kernel
theorem tX6_takesWord_24 {d : Nat} {l0 l1 : Option Value} {v1 : Value} {a : Nat} {m : jmM} {Q : Option Value → jmM → Prop} : AW d 107 24 [l0, l1] [.ref a, v1] m Q ↔ (mS m a).1 = 6 ∧ CC d 109 [.ref a] m (jK d 107 27 [l0, l1] [v1] Q) := A_callV hB_X6_takesWord dX6_takesWord_24 hO_X6_takesWord fS_6_77 ⟨Nat.le_of_ble_eq_true rfl, Nat.le_of_ble_eq_true rfl⟩ rfl rfl rfl
theorem dX6_takesWord_27 : decode cX6_takesWord 27 = .ok (.putfield 29, 3) := by decide +kernel
theorem tX6_takesWord_27 {d : Nat} {l0 l1 : Option Value} {x : Int32} {a : Nat} {m : jmM} {Q : Option Value → jmM → Prop} : AW d 107 27 [l0, l1] [.int x, .ref a] m Q ↔ (mS m a).1 = 6 ∧ AW d 107 30 [l0, l1] [] (cI m a (jup (mI m a) 3 x)) Q := A_putI hB_X6_takesWord dX6_takesWord_27 hO_X6_takesWord fF_6_29 rfl (fun h => Bool.noConfusion h)
theorem dX6_takesWord_30 : decode cX6_takesWord 30 = .ok (.iconst 1, 1) := by decide +kernel
theorem tX6_takesWord_30 {d : Nat} {l0 l1 : Option Value} {m : jmM} {Q : Option Value → jmM → Prop} : AW d 107 30 [l0, l1] [] m Q ↔ AW d 107 31 [l0, l1] [.int 1] m Q := A_iconst hB_X6_takesWord dX6_takesWord_30 (by decide)
theorem dX6_takesWord_31 : decode cX6_takesWord 31 = .ok (.ireturn, 1) := by decide +kernel
theorem tX6_takesWord_31 {d : Nat} {l0 l1 : Option Value} {x : Int32} {m : jmM} {Q : Option Value → jmM → Prop} : AW d 107 31 [l0, l1] [.int x] m Q ↔ jBool x ∧ Q (some (.int x)) m := A_zreturn hB_X6_takesWord dX6_takesWord_31 hR_X6_takesWord
theorem hB_X6_isWord : jB 108 = cX6_isWord := rfl
theorem hO_X6_isWord : jO 108 = 6 := rfl
theorem hR_X6_isWord : jRt 108 = (some .boolean) := rfl
theorem nX6_isWord (d : Nat) (x0 : Nat) (x1 : Nat) (m : jmM) (Q : Option Value → jmM → Prop) : CC (d + 1) 108 [.ref x0, .ref x1] m Q ↔ AW d 108 0 [some (.ref x0), some (.ref x1), none] [] m Q := CC_body (Nat.le_of_ble_eq_true rfl)
theorem dX6_isWord_0 : decode cX6_isWord 0 = .ok (.iconst 0, 1) := by decide +kernel
theorem tX6_isWord_0 {d : Nat} {l0 l1 l2 : Option Value} {m : jmM} {Q : Option Value → jmM → Prop} : AW d 108 0 [l0, l1, l2] [] m Q ↔ AW d 108 1 [l0, l1, l2] [.int 0] m Q := A_iconst hB_X6_isWord dX6_isWord_0 (by decide)
theorem dX6_isWord_1 : decode cX6_isWord 1 = .ok (.istore_n 2, 1) := by decide +kernel
theorem tX6_isWord_1 {d : Nat} {l0 l1 l2 : Option Value} {x : Int32} {m : jmM} {Q : Option Value → jmM → Prop} : AW d 108 1 [l0, l1, l2] [.int x] m Q ↔ AW d 108 2 [l0, jc1 l1, some (.int x)] [] m Q := A_istore_n hB_X6_isWord dX6_isWord_1 (Nat.le_of_ble_eq_true rfl) rfl
theorem dX6_isWord_2 : decode cX6_isWord 2 = .ok (.iload_n 2, 1) := by decide +kernel
theorem tX6_isWord_2 {d : Nat} {l0 l1 : Option Value} {x : Int32} {m : jmM} {Q : Option Value → jmM → Prop} : AW d 108 2 [l0, l1, some (.int x)] [] m Q ↔ AW d 108 3 [l0, l1, some (.int x)] [.int x] m Q := A_iload_n hB_X6_isWord dX6_isWord_2 rfl
theorem dX6_isWord_3 : decode cX6_isWord 3 = .ok (.aload_n 1, 1) := by decide +kernel
theorem tX6_isWord_3 {d : Nat} {l0 l2 : Option Value} {v0 : Value} {x : Nat} {m : jmM} {Q : Option Value → jmM → Prop} : AW d 108 3 [l0, some (.ref x), l2] [v0] m Q ↔ AW d 108 4 [l0, some (.ref x), l2] [.ref x, v0] m Q := A_aload_n hB_X6_isWord dX6_isWord_3 rfl
theorem dX6_isWord_4 : decode cX6_isWord 4 = .ok (.invokevirtual 173, 3) := by decide +kernel
theorem tX6_isWord_4 {d : Nat} {l0 l1 l2 : Option Value} {v1 : Value} {a : Nat} {m : jmM} {Q : Option Value → jmM → Prop} : AW d 108 4 [l0, l1, l2] [.ref a, v1] m Q ↔ (jScr < a ∧ a ≤ jScr + 16) ∧ AW d 108 7 [l0, l1, l2] [.int (nI (jCh.getD (a - jScr - 1) []).length), v1] m Q := A_strlen hB_X6_isWord dX6_isWord_4 hO_X6_isWord fS_6_173 (Nat.le_of_ble_eq_true rfl)
theorem dX6_isWord_7 : decode cX6_isWord 7 = .ok (.if_icmp .ge 32, 3) := by decide +kernel
theorem tX6_isWord_7 {d : Nat} {l0 l1 l2 : Option Value} {x y : Int32} {m : jmM} {Q : Option Value → jmM → Prop} : AW d 108 7 [l0, l1, l2] [.int y, .int x] m Q ↔ if y ≤ x then AW d 108 39 [l0, l1, l2] [] m Q else AW d 108 10 [l0, l1, l2] [] m Q := A_icmp_ge hB_X6_isWord dX6_isWord_7 (by decide)
theorem dX6_isWord_10 : decode cX6_isWord 10 = .ok (.aload_n 0, 1) := by decide +kernel
theorem tX6_isWord_10 {d : Nat} {l1 l2 : Option Value} {x : Nat} {m : jmM} {Q : Option Value → jmM → Prop} : AW d 108 10 [some (.ref x), l1, l2] [] m Q ↔ AW d 108 11 [some (.ref x), l1, l2] [.ref x] m Q := A_aload_n hB_X6_isWord dX6_isWord_10 rfl
theorem dX6_isWord_11 : decode cX6_isWord 11 = .ok (.getfield 12, 3) := by decide +kernel
theorem tX6_isWord_11 {d : Nat} {l0 l1 l2 : Option Value} {a : Nat} {m : jmM} {Q : Option Value → jmM → Prop} : AW d 108 11 [l0, l1, l2] [.ref a] m Q ↔ (mS m a).1 = 6 ∧ AW d 108 14 [l0, l1, l2] [va_rf (mR m a 0)] m Q := A_getfield (f := fun m a => va_rf (mR m a 0)) hB_X6_isWord dX6_isWord_11 hO_X6_isWord fF_6_12 rfl
theorem dX6_isWord_14 : decode cX6_isWord 14 = .ok (.aload_n 0, 1) := by decide +kernel
theorem tX6_isWord_14 {d : Nat} {l1 l2 : Option Value} {v0 : Value} {x : Nat} {m : jmM} {Q : Option Value → jmM → Prop} : AW d 108 14 [some (.ref x), l1, l2] [v0] m Q ↔ AW d 108 15 [some (.ref x), l1, l2] [.ref x, v0] m Q := A_aload_n hB_X6_isWord dX6_isWord_14 rfl
theorem dX6_isWord_15 : decode cX6_isWord 15 = .ok (.getfield 29, 3) := by decide +kernel
theorem tX6_isWord_15 {d : Nat} {l0 l1 l2 : Option Value} {v1 : Value} {a : Nat} {m : jmM} {Q : Option Value → jmM → Prop} : AW d 108 15 [l0, l1, l2] [.ref a, v1] m Q ↔ (mS m a).1 = 6 ∧ AW d 108 18 [l0, l1, l2] [.int (mI m a 3), v1] m Q := A_getfield (f := fun m a => .int (mI m a 3)) hB_X6_isWord dX6_isWord_15 hO_X6_isWord fF_6_29 rfl
theorem dX6_isWord_18 : decode cX6_isWord 18 = .ok (.iload_n 2, 1) := by decide +kernel
theorem tX6_isWord_18 {d : Nat} {l0 l1 : Option Value} {v0 v1 : Value} {x : Int32} {m : jmM} {Q : Option Value → jmM → Prop} : AW d 108 18 [l0, l1, some (.int x)] [v0, v1] m Q ↔ AW d 108 19 [l0, l1, some (.int x)] [.int x, v0, v1] m Q := A_iload_n hB_X6_isWord dX6_isWord_18 rfl
theorem dX6_isWord_19 : decode cX6_isWord 19 = .ok (.iadd, 1) := by decide +kernel
theorem tX6_isWord_19 {d : Nat} {l0 l1 l2 : Option Value} {v2 : Value} {x y : Int32} {m : jmM} {Q : Option Value → jmM → Prop} : AW d 108 19 [l0, l1, l2] [.int y, .int x, v2] m Q ↔ AW d 108 20 [l0, l1, l2] [.int (x + y), v2] m Q := A_iadd hB_X6_isWord dX6_isWord_19
theorem dX6_isWord_20 : decode cX6_isWord 20 = .ok (.invokevirtual 145, 3) := by decide +kernel
theorem tX6_isWord_20 {d : Nat} {l0 l1 l2 : Option Value} {y0 : Value} {a : Nat} {m : jmM} {Q : Option Value → jmM → Prop} : AW d 108 20 [l0, l1, l2] [y0, .ref a] m Q ↔ (mS m a).1 = 9 ∧ CC d 134 [.ref a, y0] m (jK d 108 23 [l0, l1, l2] [] Q) := A_callV hB_X6_isWord dX6_isWord_20 hO_X6_isWord fS_6_145 ⟨Nat.le_of_ble_eq_true rfl, Nat.le_of_ble_eq_true rfl⟩ rfl rfl rfl
theorem dX6_isWord_23 : decode cX6_isWord 23 = .ok (.aload_n 1, 1) := by decide +kernel
theorem tX6_isWord_23 {d : Nat} {l0 l2 : Option Value} {v0 : Value} {x : Nat} {m : jmM} {Q : Option Value → jmM → Prop} : AW d 108 23 [l0, some (.ref x), l2] [v0] m Q ↔ AW d 108 24 [l0, some (.ref x), l2] [.ref x, v0] m Q := A_aload_n hB_X6_isWord dX6_isWord_23 rfl
theorem dX6_isWord_24 : decode cX6_isWord 24 = .ok (.iload_n 2, 1) := by decide +kernel
theorem tX6_isWord_24 {d : Nat} {l0 l1 : Option Value} {v0 v1 : Value} {x : Int32} {m : jmM} {Q : Option Value → jmM → Prop} : AW d 108 24 [l0, l1, some (.int x)] [v0, v1] m Q ↔ AW d 108 25 [l0, l1, some (.int x)] [.int x, v0, v1] m Q := A_iload_n hB_X6_isWord dX6_isWord_24 rfl
theorem dX6_isWord_25 : decode cX6_isWord 25 = .ok (.invokevirtual 178, 3) := by decide +kernel
theorem tX6_isWord_25 {d : Nat} {l0 l1 l2 : Option Value} {v2 : Value} {i : Int32} {a : Nat} {m : jmM} {Q : Option Value → jmM → Prop} : AW d 108 25 [l0, l1, l2] [.int i, .ref a, v2] m Q ↔ (jScr < a ∧ a ≤ jScr + 16 ∧ jIx i (jCh.getD (a - jScr - 1) []).length) ∧ AW d 108 28 [l0, l1, l2] [.int ((jCh.getD (a - jScr - 1) []).getD (jx i) 0), v2] m Q := A_charat hB_X6_isWord dX6_isWord_25 hO_X6_isWord fS_6_178 (Nat.le_of_ble_eq_true rfl)
theorem dX6_isWord_28 : decode cX6_isWord 28 = .ok (.if_icmp .eq 5, 3) := by decide +kernel
theorem tX6_isWord_28 {d : Nat} {l0 l1 l2 : Option Value} {x y : Int32} {m : jmM} {Q : Option Value → jmM → Prop} : AW d 108 28 [l0, l1, l2] [.int y, .int x] m Q ↔ if x = y then AW d 108 33 [l0, l1, l2] [] m Q else AW d 108 31 [l0, l1, l2] [] m Q := A_icmp_eq hB_X6_isWord dX6_isWord_28 (by decide)
theorem dX6_isWord_31 : decode cX6_isWord 31 = .ok (.iconst 0, 1) := by decide +kernel
theorem tX6_isWord_31 {d : Nat} {l0 l1 l2 : Option Value} {m : jmM} {Q : Option Value → jmM → Prop} : AW d 108 31 [l0, l1, l2] [] m Q ↔ AW d 108 32 [l0, l1, l2] [.int 0] m Q := A_iconst hB_X6_isWord dX6_isWord_31 (by decide)
theorem dX6_isWord_32 : decode cX6_isWord 32 = .ok (.ireturn, 1) := by decide +kernel
theorem tX6_isWord_32 {d : Nat} {l0 l1 l2 : Option Value} {x : Int32} {m : jmM} {Q : Option Value → jmM → Prop} : AW d 108 32 [l0, l1, l2] [.int x] m Q ↔ jBool x ∧ Q (some (.int x)) m := A_zreturn hB_X6_isWord dX6_isWord_32 hR_X6_isWord
theorem dX6_isWord_33 : decode cX6_isWord 33 = .ok (.iinc 2 1, 3) := by decide +kernel
theorem tX6_isWord_33 {d : Nat} {l0 l1 : Option Value} {x : Int32} {m : jmM} {Q : Option Value → jmM → Prop} : AW d 108 33 [l0, l1, some (.int x)] [] m Q ↔ AW d 108 36 [l0, jc1 l1, some (.int (x + 1))] [] m Q := A_iinc hB_X6_isWord dX6_isWord_33 rfl (Nat.le_of_ble_eq_true rfl) (v := 1) (by decide) rfl
theorem dX6_isWord_36 : decode cX6_isWord 36 = .ok (.goto (-34), 3) := by decide +kernel
theorem tX6_isWord_36 {d : Nat} {l0 l1 l2 : Option Value} {m : jmM} {Q : Option Value → jmM → Prop} : AW d 108 36 [l0, l1, l2] [] m Q ↔ AW d 108 2 [l0, l1, l2] [] m Q := A_goto hB_X6_isWord dX6_isWord_36 (by decide)
theorem dX6_isWord_39 : decode cX6_isWord 39 = .ok (.aload_n 0, 1) := by decide +kernel
theorem tX6_isWord_39 {d : Nat} {l1 l2 : Option Value} {x : Nat} {m : jmM} {Q : Option Value → jmM → Prop} : AW d 108 39 [some (.ref x), l1, l2] [] m Q ↔ AW d 108 40 [some (.ref x), l1, l2] [.ref x] m Q := A_aload_n hB_X6_isWord dX6_isWord_39 rfl
theorem dX6_isWord_40 : decode cX6_isWord 40 = .ok (.getfield 12, 3) := by decide +kernel
theorem tX6_isWord_40 {d : Nat} {l0 l1 l2 : Option Value} {a : Nat} {m : jmM} {Q : Option Value → jmM → Prop} : AW d 108 40 [l0, l1, l2] [.ref a] m Q ↔ (mS m a).1 = 6 ∧ AW d 108 43 [l0, l1, l2] [va_rf (mR m a 0)] m Q := A_getfield (f := fun m a => va_rf (mR m a 0)) hB_X6_isWord dX6_isWord_40 hO_X6_isWord fF_6_12 rfl
theorem dX6_isWord_43 : decode cX6_isWord 43 = .ok (.aload_n 0, 1) := by decide +kernel
theorem tX6_isWord_43 {d : Nat} {l1 l2 : Option Value} {v0 : Value} {x : Nat} {m : jmM} {Q : Option Value → jmM → Prop} : AW d 108 43 [some (.ref x), l1, l2] [v0] m Q ↔ AW d 108 44 [some (.ref x), l1, l2] [.ref x, v0] m Q := A_aload_n hB_X6_isWord dX6_isWord_43 rfl
theorem dX6_isWord_44 : decode cX6_isWord 44 = .ok (.getfield 29, 3) := by decide +kernel
theorem tX6_isWord_44 {d : Nat} {l0 l1 l2 : Option Value} {v1 : Value} {a : Nat} {m : jmM} {Q : Option Value → jmM → Prop} : AW d 108 44 [l0, l1, l2] [.ref a, v1] m Q ↔ (mS m a).1 = 6 ∧ AW d 108 47 [l0, l1, l2] [.int (mI m a 3), v1] m Q := A_getfield (f := fun m a => .int (mI m a 3)) hB_X6_isWord dX6_isWord_44 hO_X6_isWord fF_6_29 rfl
theorem dX6_isWord_47 : decode cX6_isWord 47 = .ok (.aload_n 1, 1) := by decide +kernel
theorem tX6_isWord_47 {d : Nat} {l0 l2 : Option Value} {v0 v1 : Value} {x : Nat} {m : jmM} {Q : Option Value → jmM → Prop} : AW d 108 47 [l0, some (.ref x), l2] [v0, v1] m Q ↔ AW d 108 48 [l0, some (.ref x), l2] [.ref x, v0, v1] m Q := A_aload_n hB_X6_isWord dX6_isWord_47 rfl
theorem dX6_isWord_48 : decode cX6_isWord 48 = .ok (.invokevirtual 173, 3) := by decide +kernel
theorem tX6_isWord_48 {d : Nat} {l0 l1 l2 : Option Value} {v1 v2 : Value} {a : Nat} {m : jmM} {Q : Option Value → jmM → Prop} : AW d 108 48 [l0, l1, l2] [.ref a, v1, v2] m Q ↔ (jScr < a ∧ a ≤ jScr + 16) ∧ AW d 108 51 [l0, l1, l2] [.int (nI (jCh.getD (a - jScr - 1) []).length), v1, v2] m Q := A_strlen hB_X6_isWord dX6_isWord_48 hO_X6_isWord fS_6_173 (Nat.le_of_ble_eq_true rfl)
theorem dX6_isWord_51 : decode cX6_isWord 51 = .ok (.iadd, 1) := by decide +kernel
theorem tX6_isWord_51 {d : Nat} {l0 l1 l2 : Option Value} {v2 : Value} {x y : Int32} {m : jmM} {Q : Option Value → jmM → Prop} : AW d 108 51 [l0, l1, l2] [.int y, .int x, v2] m Q ↔ AW d 108 52 [l0, l1, l2] [.int (x + y), v2] m Q := A_iadd hB_X6_isWord dX6_isWord_51
theorem dX6_isWord_52 : decode cX6_isWord 52 = .ok (.invokevirtual 145, 3) := by decide +kernel
theorem tX6_isWord_52 {d : Nat} {l0 l1 l2 : Option Value} {y0 : Value} {a : Nat} {m : jmM} {Q : Option Value → jmM → Prop} : AW d 108 52 [l0, l1, l2] [y0, .ref a] m Q ↔ (mS m a).1 = 9 ∧ CC d 134 [.ref a, y0] m (jK d 108 55 [l0, l1, l2] [] Q) := A_callV hB_X6_isWord dX6_isWord_52 hO_X6_isWord fS_6_145 ⟨Nat.le_of_ble_eq_true rfl, Nat.le_of_ble_eq_true rfl⟩ rfl rfl rfl
theorem dX6_isWord_55 : decode cX6_isWord 55 = .ok (.invokestatic 182, 3) := by decide +kernel
theorem tX6_isWord_55 {d : Nat} {l0 l1 l2 : Option Value} {y0 : Value} {m : jmM} {Q : Option Value → jmM → Prop} : AW d 108 55 [l0, l1, l2] [y0] m Q ↔ CC d 110 [y0] m (jK d 108 58 [l0, l1, l2] [] Q) := A_callS0 hB_X6_isWord dX6_isWord_55 hO_X6_isWord fS_6_182 ⟨Nat.le_of_ble_eq_true rfl, Nat.le_of_ble_eq_true rfl⟩ rfl rfl
theorem dX6_isWord_58 : decode cX6_isWord 58 = .ok (.ifCond .ne 7, 3) := by decide +kernel
theorem tX6_isWord_58 {d : Nat} {l0 l1 l2 : Option Value} {x : Int32} {m : jmM} {Q : Option Value → jmM → Prop} : AW d 108 58 [l0, l1, l2] [.int x] m Q ↔ if x = 0 then AW d 108 61 [l0, l1, l2] [] m Q else AW d 108 65 [l0, l1, l2] [] m Q := A_if_ne hB_X6_isWord dX6_isWord_58 (by decide)
theorem dX6_isWord_61 : decode cX6_isWord 61 = .ok (.iconst 1, 1) := by decide +kernel
theorem tX6_isWord_61 {d : Nat} {l0 l1 l2 : Option Value} {m : jmM} {Q : Option Value → jmM → Prop} : AW d 108 61 [l0, l1, l2] [] m Q ↔ AW d 108 62 [l0, l1, l2] [.int 1] m Q := A_iconst hB_X6_isWord dX6_isWord_61 (by decide)
theorem dX6_isWord_62 : decode cX6_isWord 62 = .ok (.goto 4, 3) := by decide +kernel
theorem tX6_isWord_62 {d : Nat} {l0 l1 l2 : Option Value} {v0 : Value} {m : jmM} {Q : Option Value → jmM → Prop} : AW d 108 62 [l0, l1, l2] [v0] m Q ↔ AW d 108 66 [l0, l1, l2] [v0] m Q := A_goto hB_X6_isWord dX6_isWord_62 (by decide)
theorem dX6_isWord_65 : decode cX6_isWord 65 = .ok (.iconst 0, 1) := by decide +kernel
theorem tX6_isWord_65 {d : Nat} {l0 l1 l2 : Option Value} {m : jmM} {Q : Option Value → jmM → Prop} : AW d 108 65 [l0, l1, l2] [] m Q ↔ AW d 108 66 [l0, l1, l2] [.int 0] m Q := A_iconst hB_X6_isWord dX6_isWord_65 (by decide)
theorem dX6_isWord_66 : decode cX6_isWord 66 = .ok (.ireturn, 1) := by decide +kernel
theorem tX6_isWord_66 {d : Nat} {l0 l1 l2 : Option Value} {x : Int32} {m : jmM} {Q : Option Value → jmM → Prop} : AW d 108 66 [l0, l1, l2] [.int x] m Q ↔ jBool x ∧ Q (some (.int x)) m := A_zreturn hB_X6_isWord dX6_isWord_66 hR_X6_isWord
theorem hB_X6_wordEnd : jB 109 = cX6_wordEnd := rfl
theorem hO_X6_wordEnd : jO 109 = 6 := rfl
theorem hR_X6_wordEnd : jRt 109 = (some .int) := rfl
theorem nX6_wordEnd (d : Nat) (x0 : Nat) (m : jmM) (Q : Option Value → jmM → Prop) : CC (d + 1) 109 [.ref x0] m Q ↔ AW d 109 0 [some (.ref x0), none] [] m Q := CC_body (Nat.le_of_ble_eq_true rfl)
theorem dX6_wordEnd_0 : decode cX6_wordEnd 0 = .ok (.aload_n 0, 1) := by decide +kernel
theorem tX6_wordEnd_0 {d : Nat} {l1 : Option Value} {x : Nat} {m : jmM} {Q : Option Value → jmM → Prop} : AW d 109 0 [some (.ref x), l1] [] m Q ↔ AW d 109 1 [some (.ref x), l1] [.ref x] m Q := A_aload_n hB_X6_wordEnd dX6_wordEnd_0 rfl
theorem dX6_wordEnd_1 : decode cX6_wordEnd 1 = .ok (.getfield 29, 3) := by decide +kernel
theorem tX6_wordEnd_1 {d : Nat} {l0 l1 : Option Value} {a : Nat} {m : jmM} {Q : Option Value → jmM → Prop} : AW d 109 1 [l0, l1] [.ref a] m Q ↔ (mS m a).1 = 6 ∧ AW d 109 4 [l0, l1] [.int (mI m a 3)] m Q := A_getfield (f := fun m a => .int (mI m a 3)) hB_X6_wordEnd dX6_wordEnd_1 hO_X6_wordEnd fF_6_29 rfl
theorem dX6_wordEnd_4 : decode cX6_wordEnd 4 = .ok (.istore_n 1, 1) := by decide +kernel
theorem tX6_wordEnd_4 {d : Nat} {l0 l1 : Option Value} {x : Int32} {m : jmM} {Q : Option Value → jmM → Prop} : AW d 109 4 [l0, l1] [.int x] m Q ↔ AW d 109 5 [jc1 l0, some (.int x)] [] m Q := A_istore_n hB_X6_wordEnd dX6_wordEnd_4 (Nat.le_of_ble_eq_true rfl) rfl
theorem dX6_wordEnd_5 : decode cX6_wordEnd 5 = .ok (.iload_n 1, 1) := by decide +kernel
theorem tX6_wordEnd_5 {d : Nat} {l0 : Option Value} {x : Int32} {m : jmM} {Q : Option Value → jmM → Prop} : AW d 109 5 [l0, some (.int x)] [] m Q ↔ AW d 109 6 [l0, some (.int x)] [.int x] m Q := A_iload_n hB_X6_wordEnd dX6_wordEnd_5 rfl
theorem dX6_wordEnd_6 : decode cX6_wordEnd 6 = .ok (.sipush 400, 3) := by decide +kernel
theorem tX6_wordEnd_6 {d : Nat} {l0 l1 : Option Value} {v0 : Value} {m : jmM} {Q : Option Value → jmM → Prop} : AW d 109 6 [l0, l1] [v0] m Q ↔ AW d 109 9 [l0, l1] [.int 400, v0] m Q := A_sipush hB_X6_wordEnd dX6_wordEnd_6 rfl
theorem dX6_wordEnd_9 : decode cX6_wordEnd 9 = .ok (.if_icmp .ge 23, 3) := by decide +kernel
theorem tX6_wordEnd_9 {d : Nat} {l0 l1 : Option Value} {x y : Int32} {m : jmM} {Q : Option Value → jmM → Prop} : AW d 109 9 [l0, l1] [.int y, .int x] m Q ↔ if y ≤ x then AW d 109 32 [l0, l1] [] m Q else AW d 109 12 [l0, l1] [] m Q := A_icmp_ge hB_X6_wordEnd dX6_wordEnd_9 (by decide)
theorem dX6_wordEnd_12 : decode cX6_wordEnd 12 = .ok (.aload_n 0, 1) := by decide +kernel
theorem tX6_wordEnd_12 {d : Nat} {l1 : Option Value} {x : Nat} {m : jmM} {Q : Option Value → jmM → Prop} : AW d 109 12 [some (.ref x), l1] [] m Q ↔ AW d 109 13 [some (.ref x), l1] [.ref x] m Q := A_aload_n hB_X6_wordEnd dX6_wordEnd_12 rfl
theorem dX6_wordEnd_13 : decode cX6_wordEnd 13 = .ok (.getfield 12, 3) := by decide +kernel
theorem tX6_wordEnd_13 {d : Nat} {l0 l1 : Option Value} {a : Nat} {m : jmM} {Q : Option Value → jmM → Prop} : AW d 109 13 [l0, l1] [.ref a] m Q ↔ (mS m a).1 = 6 ∧ AW d 109 16 [l0, l1] [va_rf (mR m a 0)] m Q := A_getfield (f := fun m a => va_rf (mR m a 0)) hB_X6_wordEnd dX6_wordEnd_13 hO_X6_wordEnd fF_6_12 rfl
theorem dX6_wordEnd_16 : decode cX6_wordEnd 16 = .ok (.iload_n 1, 1) := by decide +kernel
theorem tX6_wordEnd_16 {d : Nat} {l0 : Option Value} {v0 : Value} {x : Int32} {m : jmM} {Q : Option Value → jmM → Prop} : AW d 109 16 [l0, some (.int x)] [v0] m Q ↔ AW d 109 17 [l0, some (.int x)] [.int x, v0] m Q := A_iload_n hB_X6_wordEnd dX6_wordEnd_16 rfl
theorem dX6_wordEnd_17 : decode cX6_wordEnd 17 = .ok (.invokevirtual 145, 3) := by decide +kernel
theorem tX6_wordEnd_17 {d : Nat} {l0 l1 : Option Value} {y0 : Value} {a : Nat} {m : jmM} {Q : Option Value → jmM → Prop} : AW d 109 17 [l0, l1] [y0, .ref a] m Q ↔ (mS m a).1 = 9 ∧ CC d 134 [.ref a, y0] m (jK d 109 20 [l0, l1] [] Q) := A_callV hB_X6_wordEnd dX6_wordEnd_17 hO_X6_wordEnd fS_6_145 ⟨Nat.le_of_ble_eq_true rfl, Nat.le_of_ble_eq_true rfl⟩ rfl rfl rfl
theorem dX6_wordEnd_20 : decode cX6_wordEnd 20 = .ok (.invokestatic 182, 3) := by decide +kernel
theorem tX6_wordEnd_20 {d : Nat} {l0 l1 : Option Value} {y0 : Value} {m : jmM} {Q : Option Value → jmM → Prop} : AW d 109 20 [l0, l1] [y0] m Q ↔ CC d 110 [y0] m (jK d 109 23 [l0, l1] [] Q) := A_callS0 hB_X6_wordEnd dX6_wordEnd_20 hO_X6_wordEnd fS_6_182 ⟨Nat.le_of_ble_eq_true rfl, Nat.le_of_ble_eq_true rfl⟩ rfl rfl
theorem dX6_wordEnd_23 : decode cX6_wordEnd 23 = .ok (.ifCond .eq 9, 3) := by decide +kernel
theorem tX6_wordEnd_23 {d : Nat} {l0 l1 : Option Value} {x : Int32} {m : jmM} {Q : Option Value → jmM → Prop} : AW d 109 23 [l0, l1] [.int x] m Q ↔ if x = 0 then AW d 109 32 [l0, l1] [] m Q else AW d 109 26 [l0, l1] [] m Q := A_if_eq hB_X6_wordEnd dX6_wordEnd_23 (by decide)
theorem dX6_wordEnd_26 : decode cX6_wordEnd 26 = .ok (.iinc 1 1, 3) := by decide +kernel
theorem tX6_wordEnd_26 {d : Nat} {l0 : Option Value} {x : Int32} {m : jmM} {Q : Option Value → jmM → Prop} : AW d 109 26 [l0, some (.int x)] [] m Q ↔ AW d 109 29 [jc1 l0, some (.int (x + 1))] [] m Q := A_iinc hB_X6_wordEnd dX6_wordEnd_26 rfl (Nat.le_of_ble_eq_true rfl) (v := 1) (by decide) rfl
theorem dX6_wordEnd_29 : decode cX6_wordEnd 29 = .ok (.goto (-24), 3) := by decide +kernel
theorem tX6_wordEnd_29 {d : Nat} {l0 l1 : Option Value} {m : jmM} {Q : Option Value → jmM → Prop} : AW d 109 29 [l0, l1] [] m Q ↔ AW d 109 5 [l0, l1] [] m Q := A_goto hB_X6_wordEnd dX6_wordEnd_29 (by decide)
theorem dX6_wordEnd_32 : decode cX6_wordEnd 32 = .ok (.iload_n 1, 1) := by decide +kernel
theorem tX6_wordEnd_32 {d : Nat} {l0 : Option Value} {x : Int32} {m : jmM} {Q : Option Value → jmM → Prop} : AW d 109 32 [l0, some (.int x)] [] m Q ↔ AW d 109 33 [l0, some (.int x)] [.int x] m Q := A_iload_n hB_X6_wordEnd dX6_wordEnd_32 rfl
theorem dX6_wordEnd_33 : decode cX6_wordEnd 33 = .ok (.ireturn, 1) := by decide +kernel
theorem tX6_wordEnd_33 {d : Nat} {l0 l1 : Option Value} {x : Int32} {m : jmM} {Q : Option Value → jmM → Prop} : AW d 109 33 [l0, l1] [.int x] m Q ↔ Q (some (.int x)) m := A_ireturn hB_X6_wordEnd dX6_wordEnd_33 hR_X6_wordEnd
theorem hB_X6_isLetter : jB 110 = cX6_isLetter := rfl
theorem hO_X6_isLetter : jO 110 = 6 := rfl
theorem hR_X6_isLetter : jRt 110 = (some .boolean) := rfl
theorem nX6_isLetter (d : Nat) (x0 : Int32) (m : jmM) (Q : Option Value → jmM → Prop) : CC (d + 1) 110 [.int x0] m Q ↔ AW d 110 0 [some (.int x0)] [] m Q := CC_body (Nat.le_of_ble_eq_true rfl)
theorem dX6_isLetter_0 : decode cX6_isLetter 0 = .ok (.iload_n 0, 1) := by decide +kernel
theorem tX6_isLetter_0 {d : Nat} {x : Int32} {m : jmM} {Q : Option Value → jmM → Prop} : AW d 110 0 [some (.int x)] [] m Q ↔ AW d 110 1 [some (.int x)] [.int x] m Q := A_iload_n hB_X6_isLetter dX6_isLetter_0 rfl
theorem dX6_isLetter_1 : decode cX6_isLetter 1 = .ok (.bipush 97, 2) := by decide +kernel
theorem tX6_isLetter_1 {d : Nat} {l0 : Option Value} {v0 : Value} {m : jmM} {Q : Option Value → jmM → Prop} : AW d 110 1 [l0] [v0] m Q ↔ AW d 110 3 [l0] [.int 97, v0] m Q := A_bipush hB_X6_isLetter dX6_isLetter_1 rfl
theorem dX6_isLetter_3 : decode cX6_isLetter 3 = .ok (.if_icmp .lt 13, 3) := by decide +kernel
theorem tX6_isLetter_3 {d : Nat} {l0 : Option Value} {x y : Int32} {m : jmM} {Q : Option Value → jmM → Prop} : AW d 110 3 [l0] [.int y, .int x] m Q ↔ if x < y then AW d 110 16 [l0] [] m Q else AW d 110 6 [l0] [] m Q := A_icmp_lt hB_X6_isLetter dX6_isLetter_3 (by decide)
theorem dX6_isLetter_6 : decode cX6_isLetter 6 = .ok (.iload_n 0, 1) := by decide +kernel
theorem tX6_isLetter_6 {d : Nat} {x : Int32} {m : jmM} {Q : Option Value → jmM → Prop} : AW d 110 6 [some (.int x)] [] m Q ↔ AW d 110 7 [some (.int x)] [.int x] m Q := A_iload_n hB_X6_isLetter dX6_isLetter_6 rfl
theorem dX6_isLetter_7 : decode cX6_isLetter 7 = .ok (.bipush 122, 2) := by decide +kernel
theorem tX6_isLetter_7 {d : Nat} {l0 : Option Value} {v0 : Value} {m : jmM} {Q : Option Value → jmM → Prop} : AW d 110 7 [l0] [v0] m Q ↔ AW d 110 9 [l0] [.int 122, v0] m Q := A_bipush hB_X6_isLetter dX6_isLetter_7 rfl
theorem dX6_isLetter_9 : decode cX6_isLetter 9 = .ok (.if_icmp .gt 7, 3) := by decide +kernel
theorem tX6_isLetter_9 {d : Nat} {l0 : Option Value} {x y : Int32} {m : jmM} {Q : Option Value → jmM → Prop} : AW d 110 9 [l0] [.int y, .int x] m Q ↔ if y < x then AW d 110 16 [l0] [] m Q else AW d 110 12 [l0] [] m Q := A_icmp_gt hB_X6_isLetter dX6_isLetter_9 (by decide)
theorem dX6_isLetter_12 : decode cX6_isLetter 12 = .ok (.iconst 1, 1) := by decide +kernel
theorem tX6_isLetter_12 {d : Nat} {l0 : Option Value} {m : jmM} {Q : Option Value → jmM → Prop} : AW d 110 12 [l0] [] m Q ↔ AW d 110 13 [l0] [.int 1] m Q := A_iconst hB_X6_isLetter dX6_isLetter_12 (by decide)
theorem dX6_isLetter_13 : decode cX6_isLetter 13 = .ok (.goto 4, 3) := by decide +kernel
theorem tX6_isLetter_13 {d : Nat} {l0 : Option Value} {v0 : Value} {m : jmM} {Q : Option Value → jmM → Prop} : AW d 110 13 [l0] [v0] m Q ↔ AW d 110 17 [l0] [v0] m Q := A_goto hB_X6_isLetter dX6_isLetter_13 (by decide)
theorem dX6_isLetter_16 : decode cX6_isLetter 16 = .ok (.iconst 0, 1) := by decide +kernel
theorem tX6_isLetter_16 {d : Nat} {l0 : Option Value} {m : jmM} {Q : Option Value → jmM → Prop} : AW d 110 16 [l0] [] m Q ↔ AW d 110 17 [l0] [.int 0] m Q := A_iconst hB_X6_isLetter dX6_isLetter_16 (by decide)
theorem dX6_isLetter_17 : decode cX6_isLetter 17 = .ok (.ireturn, 1) := by decide +kernel
theorem tX6_isLetter_17 {d : Nat} {l0 : Option Value} {x : Int32} {m : jmM} {Q : Option Value → jmM → Prop} : AW d 110 17 [l0] [.int x] m Q ↔ jBool x ∧ Q (some (.int x)) m := A_zreturn hB_X6_isLetter dX6_isLetter_17 hR_X6_isLetter
theorem hB_X6_isDigit : jB 111 = cX6_isDigit := rfl
theorem hO_X6_isDigit : jO 111 = 6 := rfl
theorem hR_X6_isDigit : jRt 111 = (some .boolean) := rfl
theorem nX6_isDigit (d : Nat) (x0 : Int32) (m : jmM) (Q : Option Value → jmM → Prop) : CC (d + 1) 111 [.int x0] m Q ↔ AW d 111 0 [some (.int x0)] [] m Q := CC_body (Nat.le_of_ble_eq_true rfl)
theorem dX6_isDigit_0 : decode cX6_isDigit 0 = .ok (.iload_n 0, 1) := by decide +kernel
theorem tX6_isDigit_0 {d : Nat} {x : Int32} {m : jmM} {Q : Option Value → jmM → Prop} : AW d 111 0 [some (.int x)] [] m Q ↔ AW d 111 1 [some (.int x)] [.int x] m Q := A_iload_n hB_X6_isDigit dX6_isDigit_0 rfl
theorem dX6_isDigit_1 : decode cX6_isDigit 1 = .ok (.bipush 48, 2) := by decide +kernel
theorem tX6_isDigit_1 {d : Nat} {l0 : Option Value} {v0 : Value} {m : jmM} {Q : Option Value → jmM → Prop} : AW d 111 1 [l0] [v0] m Q ↔ AW d 111 3 [l0] [.int 48, v0] m Q := A_bipush hB_X6_isDigit dX6_isDigit_1 rfl
theorem dX6_isDigit_3 : decode cX6_isDigit 3 = .ok (.if_icmp .lt 13, 3) := by decide +kernel
theorem tX6_isDigit_3 {d : Nat} {l0 : Option Value} {x y : Int32} {m : jmM} {Q : Option Value → jmM → Prop} : AW d 111 3 [l0] [.int y, .int x] m Q ↔ if x < y then AW d 111 16 [l0] [] m Q else AW d 111 6 [l0] [] m Q := A_icmp_lt hB_X6_isDigit dX6_isDigit_3 (by decide)
theorem dX6_isDigit_6 : decode cX6_isDigit 6 = .ok (.iload_n 0, 1) := by decide +kernel
theorem tX6_isDigit_6 {d : Nat} {x : Int32} {m : jmM} {Q : Option Value → jmM → Prop} : AW d 111 6 [some (.int x)] [] m Q ↔ AW d 111 7 [some (.int x)] [.int x] m Q := A_iload_n hB_X6_isDigit dX6_isDigit_6 rfl
theorem dX6_isDigit_7 : decode cX6_isDigit 7 = .ok (.bipush 57, 2) := by decide +kernel
theorem tX6_isDigit_7 {d : Nat} {l0 : Option Value} {v0 : Value} {m : jmM} {Q : Option Value → jmM → Prop} : AW d 111 7 [l0] [v0] m Q ↔ AW d 111 9 [l0] [.int 57, v0] m Q := A_bipush hB_X6_isDigit dX6_isDigit_7 rfl
theorem dX6_isDigit_9 : decode cX6_isDigit 9 = .ok (.if_icmp .gt 7, 3) := by decide +kernel
theorem tX6_isDigit_9 {d : Nat} {l0 : Option Value} {x y : Int32} {m : jmM} {Q : Option Value → jmM → Prop} : AW d 111 9 [l0] [.int y, .int x] m Q ↔ if y < x then AW d 111 16 [l0] [] m Q else AW d 111 12 [l0] [] m Q := A_icmp_gt hB_X6_isDigit dX6_isDigit_9 (by decide)
theorem dX6_isDigit_12 : decode cX6_isDigit 12 = .ok (.iconst 1, 1) := by decide +kernel
theorem tX6_isDigit_12 {d : Nat} {l0 : Option Value} {m : jmM} {Q : Option Value → jmM → Prop} : AW d 111 12 [l0] [] m Q ↔ AW d 111 13 [l0] [.int 1] m Q := A_iconst hB_X6_isDigit dX6_isDigit_12 (by decide)
theorem dX6_isDigit_13 : decode cX6_isDigit 13 = .ok (.goto 4, 3) := by decide +kernel
theorem tX6_isDigit_13 {d : Nat} {l0 : Option Value} {v0 : Value} {m : jmM} {Q : Option Value → jmM → Prop} : AW d 111 13 [l0] [v0] m Q ↔ AW d 111 17 [l0] [v0] m Q := A_goto hB_X6_isDigit dX6_isDigit_13 (by decide)
theorem dX6_isDigit_16 : decode cX6_isDigit 16 = .ok (.iconst 0, 1) := by decide +kernel
theorem tX6_isDigit_16 {d : Nat} {l0 : Option Value} {m : jmM} {Q : Option Value → jmM → Prop} : AW d 111 16 [l0] [] m Q ↔ AW d 111 17 [l0] [.int 0] m Q := A_iconst hB_X6_isDigit dX6_isDigit_16 (by decide)
theorem dX6_isDigit_17 : decode cX6_isDigit 17 = .ok (.ireturn, 1) := by decide +kernel
theorem tX6_isDigit_17 {d : Nat} {l0 : Option Value} {x : Int32} {m : jmM} {Q : Option Value → jmM → Prop} : AW d 111 17 [l0] [.int x] m Q ↔ jBool x ∧ Q (some (.int x)) m := A_zreturn hB_X6_isDigit dX6_isDigit_17 hR_X6_isDigit
