/-! steps of PulledCrystal, by program -/
theorem hB_X11_init : jB 140 = cX11_init := rfl
theorem hO_X11_init : jO 140 = 11 := rfl
theorem hR_X11_init : jRt 140 = none := rfl
theorem nX11_init (d : Nat) (x0 : Nat) (m : jmM) (Q : Option Value → jmM → Prop) : CC (d + 1) 140 [.ref x0] m Q ↔ AW d 140 0 [some (.ref x0), none] [] m Q := CC_body (Nat.le_of_ble_eq_true rfl)
theorem dX11_init_0 : decode cX11_init 0 = .ok (.aload_n 0, 1) := by decide +kernel
theorem tX11_init_0 {d : Nat} {l1 : Option Value} {x : Nat} {m : jmM} {Q : Option Value → jmM → Prop} : AW d 140 0 [some (.ref x), l1] [] m Q ↔ AW d 140 1 [some (.ref x), l1] [.ref x] m Q := A_aload_n hB_X11_init dX11_init_0 rfl
theorem dX11_init_1 : decode cX11_init 1 = .ok (.invokespecial 1, 3) := by decide +kernel
theorem tX11_init_1 {d : Nat} {l0 l1 : Option Value} {a : Nat} {m : jmM} {Q : Option Value → jmM → Prop} : AW d 140 1 [l0, l1] [.ref a] m Q ↔ AW d 140 4 [l0, l1] [] m Q := A_obj hB_X11_init dX11_init_1 hO_X11_init fS_11_1 (Nat.le_of_ble_eq_true rfl)
theorem dX11_init_4 : decode cX11_init 4 = .ok (.aload_n 0, 1) := by decide +kernel
theorem tX11_init_4 {d : Nat} {l1 : Option Value} {x : Nat} {m : jmM} {Q : Option Value → jmM → Prop} : AW d 140 4 [some (.ref x), l1] [] m Q ↔ AW d 140 5 [some (.ref x), l1] [.ref x] m Q := A_aload_n hB_X11_init dX11_init_4 rfl
theorem dX11_init_5 : decode cX11_init 5 = .ok (.new 7, 3) := by decide +kernel
theorem tX11_init_5 {d : Nat} {l0 l1 : Option Value} {v0 : Value} {m : jmM} {Q : Option Value → jmM → Prop} : AW d 140 5 [l0, l1] [v0] m Q ↔ AW d 140 8 [l0, l1] [.ref (mN m), v0] (jNew m 6 6) Q := A_new hB_X11_init dX11_init_5 hO_X11_init fN_11_7 rfl
theorem dX11_init_8 : decode cX11_init 8 = .ok (.dup, 1) := by decide +kernel
theorem tX11_init_8 {d : Nat} {l0 l1 : Option Value} {v1 : Value} {x : Nat} {m : jmM} {Q : Option Value → jmM → Prop} : AW d 140 8 [l0, l1] [.ref x, v1] m Q ↔ AW d 140 9 [l0, l1] [.ref x, .ref x, v1] m Q := A_dup_a hB_X11_init dX11_init_8
theorem dX11_init_9 : decode cX11_init 9 = .ok (.invokespecial 9, 3) := by decide +kernel
theorem tX11_init_9 {d : Nat} {l0 l1 : Option Value} {v1 v2 : Value} {a : Nat} {m : jmM} {Q : Option Value → jmM → Prop} : AW d 140 9 [l0, l1] [.ref a, v1, v2] m Q ↔ CC d 88 [.ref a] m (jK d 140 12 [l0, l1] [v1, v2] Q) := A_callI5 hB_X11_init dX11_init_9 hO_X11_init fS_11_9 ⟨Nat.le_of_ble_eq_true rfl, Nat.le_of_ble_eq_true rfl⟩ rfl rfl
theorem dX11_init_12 : decode cX11_init 12 = .ok (.putfield 10, 3) := by decide +kernel
theorem tX11_init_12 {d : Nat} {l0 l1 : Option Value} {x a : Nat} {m : jmM} {Q : Option Value → jmM → Prop} : AW d 140 12 [l0, l1] [.ref x, .ref a] m Q ↔ (mS m a).1 = 11 ∧ AW d 140 15 [l0, l1] [] (cR m a (jup (mR m a) 0 (some x))) Q := A_putR hB_X11_init dX11_init_12 hO_X11_init fF_11_10 rfl (fun _ => ⟨rfl, rfl⟩)
theorem tX11_init_12q {d : Nat} {l0 l1 : Option Value} {x : Option Nat} {a : Nat} {m : jmM} {Q : Option Value → jmM → Prop} : AW d 140 12 [l0, l1] [va_rf x, .ref a] m Q ↔ (mS m a).1 = 11 ∧ AW d 140 15 [l0, l1] [] (cR m a (jup (mR m a) 0 x)) Q := A_putQ hB_X11_init dX11_init_12 hO_X11_init fF_11_10 rfl (fun _ => ⟨rfl, rfl⟩)
theorem tX11_init_12n {d : Nat} {l0 l1 : Option Value} {a : Nat} {m : jmM} {Q : Option Value → jmM → Prop} : AW d 140 12 [l0, l1] [.null, .ref a] m Q ↔ (mS m a).1 = 11 ∧ AW d 140 15 [l0, l1] [] (cR m a (jup (mR m a) 0 none)) Q := A_putQ (x := none) hB_X11_init dX11_init_12 hO_X11_init fF_11_10 rfl (fun _ => ⟨rfl, rfl⟩)
theorem dX11_init_15 : decode cX11_init 15 = .ok (.aload_n 0, 1) := by decide +kernel
theorem tX11_init_15 {d : Nat} {l1 : Option Value} {x : Nat} {m : jmM} {Q : Option Value → jmM → Prop} : AW d 140 15 [some (.ref x), l1] [] m Q ↔ AW d 140 16 [some (.ref x), l1] [.ref x] m Q := A_aload_n hB_X11_init dX11_init_15 rfl
theorem dX11_init_16 : decode cX11_init 16 = .ok (.aload_n 0, 1) := by decide +kernel
theorem tX11_init_16 {d : Nat} {l1 : Option Value} {v0 : Value} {x : Nat} {m : jmM} {Q : Option Value → jmM → Prop} : AW d 140 16 [some (.ref x), l1] [v0] m Q ↔ AW d 140 17 [some (.ref x), l1] [.ref x, v0] m Q := A_aload_n hB_X11_init dX11_init_16 rfl
theorem dX11_init_17 : decode cX11_init 17 = .ok (.getfield 10, 3) := by decide +kernel
theorem tX11_init_17 {d : Nat} {l0 l1 : Option Value} {v1 : Value} {a : Nat} {m : jmM} {Q : Option Value → jmM → Prop} : AW d 140 17 [l0, l1] [.ref a, v1] m Q ↔ (mS m a).1 = 11 ∧ AW d 140 20 [l0, l1] [va_rf (mR m a 0), v1] m Q := A_getfield (f := fun m a => va_rf (mR m a 0)) hB_X11_init dX11_init_17 hO_X11_init fF_11_10 rfl
theorem dX11_init_20 : decode cX11_init 20 = .ok (.invokevirtual 16, 3) := by decide +kernel
theorem tX11_init_20 {d : Nat} {l0 l1 : Option Value} {v1 : Value} {a : Nat} {m : jmM} {Q : Option Value → jmM → Prop} : AW d 140 20 [l0, l1] [.ref a, v1] m Q ↔ (mS m a).1 = 6 ∧ CC d 89 [.ref a] m (jK d 140 23 [l0, l1] [v1] Q) := A_callV hB_X11_init dX11_init_20 hO_X11_init fS_11_16 ⟨Nat.le_of_ble_eq_true rfl, Nat.le_of_ble_eq_true rfl⟩ rfl rfl rfl
theorem dX11_init_23 : decode cX11_init 23 = .ok (.putfield 20, 3) := by decide +kernel
theorem tX11_init_23 {d : Nat} {l0 l1 : Option Value} {x a : Nat} {m : jmM} {Q : Option Value → jmM → Prop} : AW d 140 23 [l0, l1] [.ref x, .ref a] m Q ↔ (mS m a).1 = 11 ∧ AW d 140 26 [l0, l1] [] (cR m a (jup (mR m a) 1 (some x))) Q := A_putR hB_X11_init dX11_init_23 hO_X11_init fF_11_20 rfl (fun _ => ⟨rfl, rfl⟩)
theorem tX11_init_23q {d : Nat} {l0 l1 : Option Value} {x : Option Nat} {a : Nat} {m : jmM} {Q : Option Value → jmM → Prop} : AW d 140 23 [l0, l1] [va_rf x, .ref a] m Q ↔ (mS m a).1 = 11 ∧ AW d 140 26 [l0, l1] [] (cR m a (jup (mR m a) 1 x)) Q := A_putQ hB_X11_init dX11_init_23 hO_X11_init fF_11_20 rfl (fun _ => ⟨rfl, rfl⟩)
theorem tX11_init_23n {d : Nat} {l0 l1 : Option Value} {a : Nat} {m : jmM} {Q : Option Value → jmM → Prop} : AW d 140 23 [l0, l1] [.null, .ref a] m Q ↔ (mS m a).1 = 11 ∧ AW d 140 26 [l0, l1] [] (cR m a (jup (mR m a) 1 none)) Q := A_putQ (x := none) hB_X11_init dX11_init_23 hO_X11_init fF_11_20 rfl (fun _ => ⟨rfl, rfl⟩)
theorem dX11_init_26 : decode cX11_init 26 = .ok (.aload_n 0, 1) := by decide +kernel
theorem tX11_init_26 {d : Nat} {l1 : Option Value} {x : Nat} {m : jmM} {Q : Option Value → jmM → Prop} : AW d 140 26 [some (.ref x), l1] [] m Q ↔ AW d 140 27 [some (.ref x), l1] [.ref x] m Q := A_aload_n hB_X11_init dX11_init_26 rfl
theorem dX11_init_27 : decode cX11_init 27 = .ok (.new 23, 3) := by decide +kernel
theorem tX11_init_27 {d : Nat} {l0 l1 : Option Value} {v0 : Value} {m : jmM} {Q : Option Value → jmM → Prop} : AW d 140 27 [l0, l1] [v0] m Q ↔ AW d 140 30 [l0, l1] [.ref (mN m), v0] (jNew m 4 2) Q := A_new hB_X11_init dX11_init_27 hO_X11_init fN_11_23 rfl
theorem dX11_init_30 : decode cX11_init 30 = .ok (.dup, 1) := by decide +kernel
theorem tX11_init_30 {d : Nat} {l0 l1 : Option Value} {v1 : Value} {x : Nat} {m : jmM} {Q : Option Value → jmM → Prop} : AW d 140 30 [l0, l1] [.ref x, v1] m Q ↔ AW d 140 31 [l0, l1] [.ref x, .ref x, v1] m Q := A_dup_a hB_X11_init dX11_init_30
theorem dX11_init_31 : decode cX11_init 31 = .ok (.iconst 4, 1) := by decide +kernel
theorem tX11_init_31 {d : Nat} {l0 l1 : Option Value} {v0 v1 v2 : Value} {m : jmM} {Q : Option Value → jmM → Prop} : AW d 140 31 [l0, l1] [v0, v1, v2] m Q ↔ AW d 140 32 [l0, l1] [.int 4, v0, v1, v2] m Q := A_iconst hB_X11_init dX11_init_31 (by decide)
theorem dX11_init_32 : decode cX11_init 32 = .ok (.invokespecial 25, 3) := by decide +kernel
theorem tX11_init_32 {d : Nat} {l0 l1 : Option Value} {v2 v3 : Value} {y0 : Value} {a : Nat} {m : jmM} {Q : Option Value → jmM → Prop} : AW d 140 32 [l0, l1] [y0, .ref a, v2, v3] m Q ↔ CC d 41 [.ref a, y0] m (jK d 140 35 [l0, l1] [v2, v3] Q) := A_callI3 hB_X11_init dX11_init_32 hO_X11_init fS_11_25 ⟨Nat.le_of_ble_eq_true rfl, Nat.le_of_ble_eq_true rfl⟩ rfl rfl
theorem dX11_init_35 : decode cX11_init 35 = .ok (.putfield 28, 3) := by decide +kernel
theorem tX11_init_35 {d : Nat} {l0 l1 : Option Value} {x a : Nat} {m : jmM} {Q : Option Value → jmM → Prop} : AW d 140 35 [l0, l1] [.ref x, .ref a] m Q ↔ (mS m a).1 = 11 ∧ AW d 140 38 [l0, l1] [] (cR m a (jup (mR m a) 2 (some x))) Q := A_putR hB_X11_init dX11_init_35 hO_X11_init fF_11_28 rfl (fun _ => ⟨rfl, rfl⟩)
theorem tX11_init_35q {d : Nat} {l0 l1 : Option Value} {x : Option Nat} {a : Nat} {m : jmM} {Q : Option Value → jmM → Prop} : AW d 140 35 [l0, l1] [va_rf x, .ref a] m Q ↔ (mS m a).1 = 11 ∧ AW d 140 38 [l0, l1] [] (cR m a (jup (mR m a) 2 x)) Q := A_putQ hB_X11_init dX11_init_35 hO_X11_init fF_11_28 rfl (fun _ => ⟨rfl, rfl⟩)
theorem tX11_init_35n {d : Nat} {l0 l1 : Option Value} {a : Nat} {m : jmM} {Q : Option Value → jmM → Prop} : AW d 140 35 [l0, l1] [.null, .ref a] m Q ↔ (mS m a).1 = 11 ∧ AW d 140 38 [l0, l1] [] (cR m a (jup (mR m a) 2 none)) Q := A_putQ (x := none) hB_X11_init dX11_init_35 hO_X11_init fF_11_28 rfl (fun _ => ⟨rfl, rfl⟩)
theorem dX11_init_38 : decode cX11_init 38 = .ok (.aload_n 0, 1) := by decide +kernel
theorem tX11_init_38 {d : Nat} {l1 : Option Value} {x : Nat} {m : jmM} {Q : Option Value → jmM → Prop} : AW d 140 38 [some (.ref x), l1] [] m Q ↔ AW d 140 39 [some (.ref x), l1] [.ref x] m Q := A_aload_n hB_X11_init dX11_init_38 rfl
theorem dX11_init_39 : decode cX11_init 39 = .ok (.new 23, 3) := by decide +kernel
theorem tX11_init_39 {d : Nat} {l0 l1 : Option Value} {v0 : Value} {m : jmM} {Q : Option Value → jmM → Prop} : AW d 140 39 [l0, l1] [v0] m Q ↔ AW d 140 42 [l0, l1] [.ref (mN m), v0] (jNew m 4 2) Q := A_new hB_X11_init dX11_init_39 hO_X11_init fN_11_23 rfl
theorem dX11_init_42 : decode cX11_init 42 = .ok (.dup, 1) := by decide +kernel
theorem tX11_init_42 {d : Nat} {l0 l1 : Option Value} {v1 : Value} {x : Nat} {m : jmM} {Q : Option Value → jmM → Prop} : AW d 140 42 [l0, l1] [.ref x, v1] m Q ↔ AW d 140 43 [l0, l1] [.ref x, .ref x, v1] m Q := A_dup_a hB_X11_init dX11_init_42
theorem dX11_init_43 : decode cX11_init 43 = .ok (.bipush 8, 2) := by decide +kernel
theorem tX11_init_43 {d : Nat} {l0 l1 : Option Value} {v0 v1 v2 : Value} {m : jmM} {Q : Option Value → jmM → Prop} : AW d 140 43 [l0, l1] [v0, v1, v2] m Q ↔ AW d 140 45 [l0, l1] [.int 8, v0, v1, v2] m Q := A_bipush hB_X11_init dX11_init_43 rfl
theorem dX11_init_45 : decode cX11_init 45 = .ok (.invokespecial 25, 3) := by decide +kernel
theorem tX11_init_45 {d : Nat} {l0 l1 : Option Value} {v2 v3 : Value} {y0 : Value} {a : Nat} {m : jmM} {Q : Option Value → jmM → Prop} : AW d 140 45 [l0, l1] [y0, .ref a, v2, v3] m Q ↔ CC d 41 [.ref a, y0] m (jK d 140 48 [l0, l1] [v2, v3] Q) := A_callI3 hB_X11_init dX11_init_45 hO_X11_init fS_11_25 ⟨Nat.le_of_ble_eq_true rfl, Nat.le_of_ble_eq_true rfl⟩ rfl rfl
theorem dX11_init_48 : decode cX11_init 48 = .ok (.putfield 32, 3) := by decide +kernel
theorem tX11_init_48 {d : Nat} {l0 l1 : Option Value} {x a : Nat} {m : jmM} {Q : Option Value → jmM → Prop} : AW d 140 48 [l0, l1] [.ref x, .ref a] m Q ↔ (mS m a).1 = 11 ∧ AW d 140 51 [l0, l1] [] (cR m a (jup (mR m a) 3 (some x))) Q := A_putR hB_X11_init dX11_init_48 hO_X11_init fF_11_32 rfl (fun _ => ⟨rfl, rfl⟩)
theorem tX11_init_48q {d : Nat} {l0 l1 : Option Value} {x : Option Nat} {a : Nat} {m : jmM} {Q : Option Value → jmM → Prop} : AW d 140 48 [l0, l1] [va_rf x, .ref a] m Q ↔ (mS m a).1 = 11 ∧ AW d 140 51 [l0, l1] [] (cR m a (jup (mR m a) 3 x)) Q := A_putQ hB_X11_init dX11_init_48 hO_X11_init fF_11_32 rfl (fun _ => ⟨rfl, rfl⟩)
theorem tX11_init_48n {d : Nat} {l0 l1 : Option Value} {a : Nat} {m : jmM} {Q : Option Value → jmM → Prop} : AW d 140 48 [l0, l1] [.null, .ref a] m Q ↔ (mS m a).1 = 11 ∧ AW d 140 51 [l0, l1] [] (cR m a (jup (mR m a) 3 none)) Q := A_putQ (x := none) hB_X11_init dX11_init_48 hO_X11_init fF_11_32 rfl (fun _ => ⟨rfl, rfl⟩)
theorem dX11_init_51 : decode cX11_init 51 = .ok (.aload_n 0, 1) := by decide +kernel
theorem tX11_init_51 {d : Nat} {l1 : Option Value} {x : Nat} {m : jmM} {Q : Option Value → jmM → Prop} : AW d 140 51 [some (.ref x), l1] [] m Q ↔ AW d 140 52 [some (.ref x), l1] [.ref x] m Q := A_aload_n hB_X11_init dX11_init_51 rfl
theorem dX11_init_52 : decode cX11_init 52 = .ok (.new 35, 3) := by decide +kernel
theorem tX11_init_52 {d : Nat} {l0 l1 : Option Value} {v0 : Value} {m : jmM} {Q : Option Value → jmM → Prop} : AW d 140 52 [l0, l1] [v0] m Q ↔ AW d 140 55 [l0, l1] [.ref (mN m), v0] (jNew m 1 3) Q := A_new hB_X11_init dX11_init_52 hO_X11_init fN_11_35 rfl
theorem dX11_init_55 : decode cX11_init 55 = .ok (.dup, 1) := by decide +kernel
theorem tX11_init_55 {d : Nat} {l0 l1 : Option Value} {v1 : Value} {x : Nat} {m : jmM} {Q : Option Value → jmM → Prop} : AW d 140 55 [l0, l1] [.ref x, v1] m Q ↔ AW d 140 56 [l0, l1] [.ref x, .ref x, v1] m Q := A_dup_a hB_X11_init dX11_init_55
theorem dX11_init_56 : decode cX11_init 56 = .ok (.invokespecial 37, 3) := by decide +kernel
theorem tX11_init_56 {d : Nat} {l0 l1 : Option Value} {v1 v2 : Value} {a : Nat} {m : jmM} {Q : Option Value → jmM → Prop} : AW d 140 56 [l0, l1] [.ref a, v1, v2] m Q ↔ CC d 10 [.ref a] m (jK d 140 59 [l0, l1] [v1, v2] Q) := A_callI5 hB_X11_init dX11_init_56 hO_X11_init fS_11_37 ⟨Nat.le_of_ble_eq_true rfl, Nat.le_of_ble_eq_true rfl⟩ rfl rfl
theorem dX11_init_59 : decode cX11_init 59 = .ok (.putfield 38, 3) := by decide +kernel
theorem tX11_init_59 {d : Nat} {l0 l1 : Option Value} {x a : Nat} {m : jmM} {Q : Option Value → jmM → Prop} : AW d 140 59 [l0, l1] [.ref x, .ref a] m Q ↔ (mS m a).1 = 11 ∧ AW d 140 62 [l0, l1] [] (cR m a (jup (mR m a) 4 (some x))) Q := A_putR hB_X11_init dX11_init_59 hO_X11_init fF_11_38 rfl (fun _ => ⟨rfl, rfl⟩)
theorem tX11_init_59q {d : Nat} {l0 l1 : Option Value} {x : Option Nat} {a : Nat} {m : jmM} {Q : Option Value → jmM → Prop} : AW d 140 59 [l0, l1] [va_rf x, .ref a] m Q ↔ (mS m a).1 = 11 ∧ AW d 140 62 [l0, l1] [] (cR m a (jup (mR m a) 4 x)) Q := A_putQ hB_X11_init dX11_init_59 hO_X11_init fF_11_38 rfl (fun _ => ⟨rfl, rfl⟩)
theorem tX11_init_59n {d : Nat} {l0 l1 : Option Value} {a : Nat} {m : jmM} {Q : Option Value → jmM → Prop} : AW d 140 59 [l0, l1] [.null, .ref a] m Q ↔ (mS m a).1 = 11 ∧ AW d 140 62 [l0, l1] [] (cR m a (jup (mR m a) 4 none)) Q := A_putQ (x := none) hB_X11_init dX11_init_59 hO_X11_init fF_11_38 rfl (fun _ => ⟨rfl, rfl⟩)
theorem dX11_init_62 : decode cX11_init 62 = .ok (.aload_n 0, 1) := by decide +kernel
theorem tX11_init_62 {d : Nat} {l1 : Option Value} {x : Nat} {m : jmM} {Q : Option Value → jmM → Prop} : AW d 140 62 [some (.ref x), l1] [] m Q ↔ AW d 140 63 [some (.ref x), l1] [.ref x] m Q := A_aload_n hB_X11_init dX11_init_62 rfl
theorem dX11_init_63 : decode cX11_init 63 = .ok (.bipush 6, 2) := by decide +kernel
theorem tX11_init_63 {d : Nat} {l0 l1 : Option Value} {v0 : Value} {m : jmM} {Q : Option Value → jmM → Prop} : AW d 140 63 [l0, l1] [v0] m Q ↔ AW d 140 65 [l0, l1] [.int 6, v0] m Q := A_bipush hB_X11_init dX11_init_63 rfl
theorem dX11_init_65 : decode cX11_init 65 = .ok (.newarray .int, 2) := by decide +kernel
theorem tX11_init_65 {d : Nat} {l0 l1 : Option Value} {v1 : Value} {x : Int32} {m : jmM} {Q : Option Value → jmM → Prop} : AW d 140 65 [l0, l1] [.int x, v1] m Q ↔ (0 ≤ x.toInt ∧ x.toInt ≤ 100000) ∧ AW d 140 67 [l0, l1] [.ref (mN m), v1] (jNew m 20 (jx x)) Q := A_newarray hB_X11_init dX11_init_65 rfl
theorem dX11_init_67 : decode cX11_init 67 = .ok (.putfield 42, 3) := by decide +kernel
theorem tX11_init_67 {d : Nat} {l0 l1 : Option Value} {x a : Nat} {m : jmM} {Q : Option Value → jmM → Prop} : AW d 140 67 [l0, l1] [.ref x, .ref a] m Q ↔ (mS m a).1 = 11 ∧ AW d 140 70 [l0, l1] [] (cR m a (jup (mR m a) 5 (some x))) Q := A_putR hB_X11_init dX11_init_67 hO_X11_init fF_11_42 rfl (fun _ => ⟨rfl, rfl⟩)
theorem tX11_init_67q {d : Nat} {l0 l1 : Option Value} {x : Option Nat} {a : Nat} {m : jmM} {Q : Option Value → jmM → Prop} : AW d 140 67 [l0, l1] [va_rf x, .ref a] m Q ↔ (mS m a).1 = 11 ∧ AW d 140 70 [l0, l1] [] (cR m a (jup (mR m a) 5 x)) Q := A_putQ hB_X11_init dX11_init_67 hO_X11_init fF_11_42 rfl (fun _ => ⟨rfl, rfl⟩)
theorem tX11_init_67n {d : Nat} {l0 l1 : Option Value} {a : Nat} {m : jmM} {Q : Option Value → jmM → Prop} : AW d 140 67 [l0, l1] [.null, .ref a] m Q ↔ (mS m a).1 = 11 ∧ AW d 140 70 [l0, l1] [] (cR m a (jup (mR m a) 5 none)) Q := A_putQ (x := none) hB_X11_init dX11_init_67 hO_X11_init fF_11_42 rfl (fun _ => ⟨rfl, rfl⟩)
theorem dX11_init_70 : decode cX11_init 70 = .ok (.aload_n 0, 1) := by decide +kernel
theorem tX11_init_70 {d : Nat} {l1 : Option Value} {x : Nat} {m : jmM} {Q : Option Value → jmM → Prop} : AW d 140 70 [some (.ref x), l1] [] m Q ↔ AW d 140 71 [some (.ref x), l1] [.ref x] m Q := A_aload_n hB_X11_init dX11_init_70 rfl
theorem dX11_init_71 : decode cX11_init 71 = .ok (.bipush 6, 2) := by decide +kernel
theorem tX11_init_71 {d : Nat} {l0 l1 : Option Value} {v0 : Value} {m : jmM} {Q : Option Value → jmM → Prop} : AW d 140 71 [l0, l1] [v0] m Q ↔ AW d 140 73 [l0, l1] [.int 6, v0] m Q := A_bipush hB_X11_init dX11_init_71 rfl
theorem dX11_init_73 : decode cX11_init 73 = .ok (.newarray .int, 2) := by decide +kernel
theorem tX11_init_73 {d : Nat} {l0 l1 : Option Value} {v1 : Value} {x : Int32} {m : jmM} {Q : Option Value → jmM → Prop} : AW d 140 73 [l0, l1] [.int x, v1] m Q ↔ (0 ≤ x.toInt ∧ x.toInt ≤ 100000) ∧ AW d 140 75 [l0, l1] [.ref (mN m), v1] (jNew m 20 (jx x)) Q := A_newarray hB_X11_init dX11_init_73 rfl
theorem dX11_init_75 : decode cX11_init 75 = .ok (.putfield 46, 3) := by decide +kernel
theorem tX11_init_75 {d : Nat} {l0 l1 : Option Value} {x a : Nat} {m : jmM} {Q : Option Value → jmM → Prop} : AW d 140 75 [l0, l1] [.ref x, .ref a] m Q ↔ (mS m a).1 = 11 ∧ AW d 140 78 [l0, l1] [] (cR m a (jup (mR m a) 6 (some x))) Q := A_putR hB_X11_init dX11_init_75 hO_X11_init fF_11_46 rfl (fun _ => ⟨rfl, rfl⟩)
theorem tX11_init_75q {d : Nat} {l0 l1 : Option Value} {x : Option Nat} {a : Nat} {m : jmM} {Q : Option Value → jmM → Prop} : AW d 140 75 [l0, l1] [va_rf x, .ref a] m Q ↔ (mS m a).1 = 11 ∧ AW d 140 78 [l0, l1] [] (cR m a (jup (mR m a) 6 x)) Q := A_putQ hB_X11_init dX11_init_75 hO_X11_init fF_11_46 rfl (fun _ => ⟨rfl, rfl⟩)
theorem tX11_init_75n {d : Nat} {l0 l1 : Option Value} {a : Nat} {m : jmM} {Q : Option Value → jmM → Prop} : AW d 140 75 [l0, l1] [.null, .ref a] m Q ↔ (mS m a).1 = 11 ∧ AW d 140 78 [l0, l1] [] (cR m a (jup (mR m a) 6 none)) Q := A_putQ (x := none) hB_X11_init dX11_init_75 hO_X11_init fF_11_46 rfl (fun _ => ⟨rfl, rfl⟩)
theorem dX11_init_78 : decode cX11_init 78 = .ok (.aload_n 0, 1) := by decide +kernel
theorem tX11_init_78 {d : Nat} {l1 : Option Value} {x : Nat} {m : jmM} {Q : Option Value → jmM → Prop} : AW d 140 78 [some (.ref x), l1] [] m Q ↔ AW d 140 79 [some (.ref x), l1] [.ref x] m Q := A_aload_n hB_X11_init dX11_init_78 rfl
theorem dX11_init_79 : decode cX11_init 79 = .ok (.bipush 30, 2) := by decide +kernel
theorem tX11_init_79 {d : Nat} {l0 l1 : Option Value} {v0 : Value} {m : jmM} {Q : Option Value → jmM → Prop} : AW d 140 79 [l0, l1] [v0] m Q ↔ AW d 140 81 [l0, l1] [.int 30, v0] m Q := A_bipush hB_X11_init dX11_init_79 rfl
theorem dX11_init_81 : decode cX11_init 81 = .ok (.putfield 49, 3) := by decide +kernel
theorem tX11_init_81 {d : Nat} {l0 l1 : Option Value} {x : Int32} {a : Nat} {m : jmM} {Q : Option Value → jmM → Prop} : AW d 140 81 [l0, l1] [.int x, .ref a] m Q ↔ (mS m a).1 = 11 ∧ AW d 140 84 [l0, l1] [] (cI m a (jup (mI m a) 7 x)) Q := A_putI hB_X11_init dX11_init_81 hO_X11_init fF_11_49 rfl (fun h => Bool.noConfusion h)
theorem dX11_init_84 : decode cX11_init 84 = .ok (.aload_n 0, 1) := by decide +kernel
theorem tX11_init_84 {d : Nat} {l1 : Option Value} {x : Nat} {m : jmM} {Q : Option Value → jmM → Prop} : AW d 140 84 [some (.ref x), l1] [] m Q ↔ AW d 140 85 [some (.ref x), l1] [.ref x] m Q := A_aload_n hB_X11_init dX11_init_84 rfl
theorem dX11_init_85 : decode cX11_init 85 = .ok (.new 53, 3) := by decide +kernel
theorem tX11_init_85 {d : Nat} {l0 l1 : Option Value} {v0 : Value} {m : jmM} {Q : Option Value → jmM → Prop} : AW d 140 85 [l0, l1] [v0] m Q ↔ AW d 140 88 [l0, l1] [.ref (mN m), v0] (jNew m 5 19) Q := A_new hB_X11_init dX11_init_85 hO_X11_init fN_11_53 rfl
theorem dX11_init_88 : decode cX11_init 88 = .ok (.dup, 1) := by decide +kernel
theorem tX11_init_88 {d : Nat} {l0 l1 : Option Value} {v1 : Value} {x : Nat} {m : jmM} {Q : Option Value → jmM → Prop} : AW d 140 88 [l0, l1] [.ref x, v1] m Q ↔ AW d 140 89 [l0, l1] [.ref x, .ref x, v1] m Q := A_dup_a hB_X11_init dX11_init_88
theorem dX11_init_89 : decode cX11_init 89 = .ok (.invokespecial 55, 3) := by decide +kernel
theorem tX11_init_89 {d : Nat} {l0 l1 : Option Value} {v1 v2 : Value} {a : Nat} {m : jmM} {Q : Option Value → jmM → Prop} : AW d 140 89 [l0, l1] [.ref a, v1, v2] m Q ↔ CC d 46 [.ref a] m (jK d 140 92 [l0, l1] [v1, v2] Q) := A_callI5 hB_X11_init dX11_init_89 hO_X11_init fS_11_55 ⟨Nat.le_of_ble_eq_true rfl, Nat.le_of_ble_eq_true rfl⟩ rfl rfl
theorem dX11_init_92 : decode cX11_init 92 = .ok (.putfield 56, 3) := by decide +kernel
theorem tX11_init_92 {d : Nat} {l0 l1 : Option Value} {x a : Nat} {m : jmM} {Q : Option Value → jmM → Prop} : AW d 140 92 [l0, l1] [.ref x, .ref a] m Q ↔ (mS m a).1 = 11 ∧ AW d 140 95 [l0, l1] [] (cR m a (jup (mR m a) 8 (some x))) Q := A_putR hB_X11_init dX11_init_92 hO_X11_init fF_11_56 rfl (fun _ => ⟨rfl, rfl⟩)
theorem tX11_init_92q {d : Nat} {l0 l1 : Option Value} {x : Option Nat} {a : Nat} {m : jmM} {Q : Option Value → jmM → Prop} : AW d 140 92 [l0, l1] [va_rf x, .ref a] m Q ↔ (mS m a).1 = 11 ∧ AW d 140 95 [l0, l1] [] (cR m a (jup (mR m a) 8 x)) Q := A_putQ hB_X11_init dX11_init_92 hO_X11_init fF_11_56 rfl (fun _ => ⟨rfl, rfl⟩)
theorem tX11_init_92n {d : Nat} {l0 l1 : Option Value} {a : Nat} {m : jmM} {Q : Option Value → jmM → Prop} : AW d 140 92 [l0, l1] [.null, .ref a] m Q ↔ (mS m a).1 = 11 ∧ AW d 140 95 [l0, l1] [] (cR m a (jup (mR m a) 8 none)) Q := A_putQ (x := none) hB_X11_init dX11_init_92 hO_X11_init fF_11_56 rfl (fun _ => ⟨rfl, rfl⟩)
theorem dX11_init_95 : decode cX11_init 95 = .ok (.aload_n 0, 1) := by decide +kernel
theorem tX11_init_95 {d : Nat} {l1 : Option Value} {x : Nat} {m : jmM} {Q : Option Value → jmM → Prop} : AW d 140 95 [some (.ref x), l1] [] m Q ↔ AW d 140 96 [some (.ref x), l1] [.ref x] m Q := A_aload_n hB_X11_init dX11_init_95 rfl
theorem dX11_init_96 : decode cX11_init 96 = .ok (.new 53, 3) := by decide +kernel
theorem tX11_init_96 {d : Nat} {l0 l1 : Option Value} {v0 : Value} {m : jmM} {Q : Option Value → jmM → Prop} : AW d 140 96 [l0, l1] [v0] m Q ↔ AW d 140 99 [l0, l1] [.ref (mN m), v0] (jNew m 5 19) Q := A_new hB_X11_init dX11_init_96 hO_X11_init fN_11_53 rfl
theorem dX11_init_99 : decode cX11_init 99 = .ok (.dup, 1) := by decide +kernel
theorem tX11_init_99 {d : Nat} {l0 l1 : Option Value} {v1 : Value} {x : Nat} {m : jmM} {Q : Option Value → jmM → Prop} : AW d 140 99 [l0, l1] [.ref x, v1] m Q ↔ AW d 140 100 [l0, l1] [.ref x, .ref x, v1] m Q := A_dup_a hB_X11_init dX11_init_99
theorem dX11_init_100 : decode cX11_init 100 = .ok (.invokespecial 55, 3) := by decide +kernel
theorem tX11_init_100 {d : Nat} {l0 l1 : Option Value} {v1 v2 : Value} {a : Nat} {m : jmM} {Q : Option Value → jmM → Prop} : AW d 140 100 [l0, l1] [.ref a, v1, v2] m Q ↔ CC d 46 [.ref a] m (jK d 140 103 [l0, l1] [v1, v2] Q) := A_callI5 hB_X11_init dX11_init_100 hO_X11_init fS_11_55 ⟨Nat.le_of_ble_eq_true rfl, Nat.le_of_ble_eq_true rfl⟩ rfl rfl
theorem dX11_init_103 : decode cX11_init 103 = .ok (.putfield 60, 3) := by decide +kernel
theorem tX11_init_103 {d : Nat} {l0 l1 : Option Value} {x a : Nat} {m : jmM} {Q : Option Value → jmM → Prop} : AW d 140 103 [l0, l1] [.ref x, .ref a] m Q ↔ (mS m a).1 = 11 ∧ AW d 140 106 [l0, l1] [] (cR m a (jup (mR m a) 9 (some x))) Q := A_putR hB_X11_init dX11_init_103 hO_X11_init fF_11_60 rfl (fun _ => ⟨rfl, rfl⟩)
theorem tX11_init_103q {d : Nat} {l0 l1 : Option Value} {x : Option Nat} {a : Nat} {m : jmM} {Q : Option Value → jmM → Prop} : AW d 140 103 [l0, l1] [va_rf x, .ref a] m Q ↔ (mS m a).1 = 11 ∧ AW d 140 106 [l0, l1] [] (cR m a (jup (mR m a) 9 x)) Q := A_putQ hB_X11_init dX11_init_103 hO_X11_init fF_11_60 rfl (fun _ => ⟨rfl, rfl⟩)
theorem tX11_init_103n {d : Nat} {l0 l1 : Option Value} {a : Nat} {m : jmM} {Q : Option Value → jmM → Prop} : AW d 140 103 [l0, l1] [.null, .ref a] m Q ↔ (mS m a).1 = 11 ∧ AW d 140 106 [l0, l1] [] (cR m a (jup (mR m a) 9 none)) Q := A_putQ (x := none) hB_X11_init dX11_init_103 hO_X11_init fF_11_60 rfl (fun _ => ⟨rfl, rfl⟩)
theorem dX11_init_106 : decode cX11_init 106 = .ok (.aload_n 0, 1) := by decide +kernel
theorem tX11_init_106 {d : Nat} {l1 : Option Value} {x : Nat} {m : jmM} {Q : Option Value → jmM → Prop} : AW d 140 106 [some (.ref x), l1] [] m Q ↔ AW d 140 107 [some (.ref x), l1] [.ref x] m Q := A_aload_n hB_X11_init dX11_init_106 rfl
theorem dX11_init_107 : decode cX11_init 107 = .ok (.iconst 4, 1) := by decide +kernel
theorem tX11_init_107 {d : Nat} {l0 l1 : Option Value} {v0 : Value} {m : jmM} {Q : Option Value → jmM → Prop} : AW d 140 107 [l0, l1] [v0] m Q ↔ AW d 140 108 [l0, l1] [.int 4, v0] m Q := A_iconst hB_X11_init dX11_init_107 (by decide)
theorem dX11_init_108 : decode cX11_init 108 = .ok (.anewarray 63, 3) := by decide +kernel
theorem tX11_init_108 {d : Nat} {l0 l1 : Option Value} {v1 : Value} {x : Int32} {m : jmM} {Q : Option Value → jmM → Prop} : AW d 140 108 [l0, l1] [.int x, v1] m Q ↔ (0 ≤ x.toInt ∧ x.toInt ≤ 100000) ∧ AW d 140 111 [l0, l1] [.ref (mN m), v1] (jNew m 25 (jx x)) Q := A_anewarray hB_X11_init dX11_init_108 hO_X11_init fA_11_63
theorem dX11_init_111 : decode cX11_init 111 = .ok (.putfield 65, 3) := by decide +kernel
theorem tX11_init_111 {d : Nat} {l0 l1 : Option Value} {x a : Nat} {m : jmM} {Q : Option Value → jmM → Prop} : AW d 140 111 [l0, l1] [.ref x, .ref a] m Q ↔ (mS m a).1 = 11 ∧ AW d 140 114 [l0, l1] [] (cR m a (jup (mR m a) 10 (some x))) Q := A_putR hB_X11_init dX11_init_111 hO_X11_init fF_11_65 rfl (fun _ => ⟨rfl, rfl⟩)
theorem tX11_init_111q {d : Nat} {l0 l1 : Option Value} {x : Option Nat} {a : Nat} {m : jmM} {Q : Option Value → jmM → Prop} : AW d 140 111 [l0, l1] [va_rf x, .ref a] m Q ↔ (mS m a).1 = 11 ∧ AW d 140 114 [l0, l1] [] (cR m a (jup (mR m a) 10 x)) Q := A_putQ hB_X11_init dX11_init_111 hO_X11_init fF_11_65 rfl (fun _ => ⟨rfl, rfl⟩)
theorem tX11_init_111n {d : Nat} {l0 l1 : Option Value} {a : Nat} {m : jmM} {Q : Option Value → jmM → Prop} : AW d 140 111 [l0, l1] [.null, .ref a] m Q ↔ (mS m a).1 = 11 ∧ AW d 140 114 [l0, l1] [] (cR m a (jup (mR m a) 10 none)) Q := A_putQ (x := none) hB_X11_init dX11_init_111 hO_X11_init fF_11_65 rfl (fun _ => ⟨rfl, rfl⟩)
theorem dX11_init_114 : decode cX11_init 114 = .ok (.aload_n 0, 1) := by decide +kernel
theorem tX11_init_114 {d : Nat} {l1 : Option Value} {x : Nat} {m : jmM} {Q : Option Value → jmM → Prop} : AW d 140 114 [some (.ref x), l1] [] m Q ↔ AW d 140 115 [some (.ref x), l1] [.ref x] m Q := A_aload_n hB_X11_init dX11_init_114 rfl
theorem dX11_init_115 : decode cX11_init 115 = .ok (.bipush 8, 2) := by decide +kernel
theorem tX11_init_115 {d : Nat} {l0 l1 : Option Value} {v0 : Value} {m : jmM} {Q : Option Value → jmM → Prop} : AW d 140 115 [l0, l1] [v0] m Q ↔ AW d 140 117 [l0, l1] [.int 8, v0] m Q := A_bipush hB_X11_init dX11_init_115 rfl
theorem dX11_init_117 : decode cX11_init 117 = .ok (.anewarray 69, 3) := by decide +kernel
theorem tX11_init_117 {d : Nat} {l0 l1 : Option Value} {v1 : Value} {x : Int32} {m : jmM} {Q : Option Value → jmM → Prop} : AW d 140 117 [l0, l1] [.int x, v1] m Q ↔ (0 ≤ x.toInt ∧ x.toInt ≤ 100000) ∧ AW d 140 120 [l0, l1] [.ref (mN m), v1] (jNew m 26 (jx x)) Q := A_anewarray hB_X11_init dX11_init_117 hO_X11_init fA_11_69
theorem dX11_init_120 : decode cX11_init 120 = .ok (.putfield 71, 3) := by decide +kernel
theorem tX11_init_120 {d : Nat} {l0 l1 : Option Value} {x a : Nat} {m : jmM} {Q : Option Value → jmM → Prop} : AW d 140 120 [l0, l1] [.ref x, .ref a] m Q ↔ (mS m a).1 = 11 ∧ AW d 140 123 [l0, l1] [] (cR m a (jup (mR m a) 11 (some x))) Q := A_putR hB_X11_init dX11_init_120 hO_X11_init fF_11_71 rfl (fun _ => ⟨rfl, rfl⟩)
theorem tX11_init_120q {d : Nat} {l0 l1 : Option Value} {x : Option Nat} {a : Nat} {m : jmM} {Q : Option Value → jmM → Prop} : AW d 140 120 [l0, l1] [va_rf x, .ref a] m Q ↔ (mS m a).1 = 11 ∧ AW d 140 123 [l0, l1] [] (cR m a (jup (mR m a) 11 x)) Q := A_putQ hB_X11_init dX11_init_120 hO_X11_init fF_11_71 rfl (fun _ => ⟨rfl, rfl⟩)
theorem tX11_init_120n {d : Nat} {l0 l1 : Option Value} {a : Nat} {m : jmM} {Q : Option Value → jmM → Prop} : AW d 140 120 [l0, l1] [.null, .ref a] m Q ↔ (mS m a).1 = 11 ∧ AW d 140 123 [l0, l1] [] (cR m a (jup (mR m a) 11 none)) Q := A_putQ (x := none) hB_X11_init dX11_init_120 hO_X11_init fF_11_71 rfl (fun _ => ⟨rfl, rfl⟩)
theorem dX11_init_123 : decode cX11_init 123 = .ok (.aload_n 0, 1) := by decide +kernel
theorem tX11_init_123 {d : Nat} {l1 : Option Value} {x : Nat} {m : jmM} {Q : Option Value → jmM → Prop} : AW d 140 123 [some (.ref x), l1] [] m Q ↔ AW d 140 124 [some (.ref x), l1] [.ref x] m Q := A_aload_n hB_X11_init dX11_init_123 rfl
theorem dX11_init_124 : decode cX11_init 124 = .ok (.iconst 0, 1) := by decide +kernel
theorem tX11_init_124 {d : Nat} {l0 l1 : Option Value} {v0 : Value} {m : jmM} {Q : Option Value → jmM → Prop} : AW d 140 124 [l0, l1] [v0] m Q ↔ AW d 140 125 [l0, l1] [.int 0, v0] m Q := A_iconst hB_X11_init dX11_init_124 (by decide)
theorem dX11_init_125 : decode cX11_init 125 = .ok (.putfield 75, 3) := by decide +kernel
theorem tX11_init_125 {d : Nat} {l0 l1 : Option Value} {x : Int32} {a : Nat} {m : jmM} {Q : Option Value → jmM → Prop} : AW d 140 125 [l0, l1] [.int x, .ref a] m Q ↔ (mS m a).1 = 11 ∧ AW d 140 128 [l0, l1] [] (cI m a (jup (mI m a) 12 x)) Q := A_putI hB_X11_init dX11_init_125 hO_X11_init fF_11_75 rfl (fun h => Bool.noConfusion h)
theorem dX11_init_128 : decode cX11_init 128 = .ok (.aload_n 0, 1) := by decide +kernel
theorem tX11_init_128 {d : Nat} {l1 : Option Value} {x : Nat} {m : jmM} {Q : Option Value → jmM → Prop} : AW d 140 128 [some (.ref x), l1] [] m Q ↔ AW d 140 129 [some (.ref x), l1] [.ref x] m Q := A_aload_n hB_X11_init dX11_init_128 rfl
theorem dX11_init_129 : decode cX11_init 129 = .ok (.new 78, 3) := by decide +kernel
theorem tX11_init_129 {d : Nat} {l0 l1 : Option Value} {v0 : Value} {m : jmM} {Q : Option Value → jmM → Prop} : AW d 140 129 [l0, l1] [v0] m Q ↔ AW d 140 132 [l0, l1] [.ref (mN m), v0] (jNew m 0 6) Q := A_new hB_X11_init dX11_init_129 hO_X11_init fN_11_78 rfl
theorem dX11_init_132 : decode cX11_init 132 = .ok (.dup, 1) := by decide +kernel
theorem tX11_init_132 {d : Nat} {l0 l1 : Option Value} {v1 : Value} {x : Nat} {m : jmM} {Q : Option Value → jmM → Prop} : AW d 140 132 [l0, l1] [.ref x, v1] m Q ↔ AW d 140 133 [l0, l1] [.ref x, .ref x, v1] m Q := A_dup_a hB_X11_init dX11_init_132
theorem dX11_init_133 : decode cX11_init 133 = .ok (.invokespecial 80, 3) := by decide +kernel
theorem tX11_init_133 {d : Nat} {l0 l1 : Option Value} {v1 v2 : Value} {a : Nat} {m : jmM} {Q : Option Value → jmM → Prop} : AW d 140 133 [l0, l1] [.ref a, v1, v2] m Q ↔ CC d 0 [.ref a] m (jK d 140 136 [l0, l1] [v1, v2] Q) := A_callI5 hB_X11_init dX11_init_133 hO_X11_init fS_11_80 ⟨Nat.le_of_ble_eq_true rfl, Nat.le_of_ble_eq_true rfl⟩ rfl rfl
theorem dX11_init_136 : decode cX11_init 136 = .ok (.putfield 81, 3) := by decide +kernel
theorem tX11_init_136 {d : Nat} {l0 l1 : Option Value} {x a : Nat} {m : jmM} {Q : Option Value → jmM → Prop} : AW d 140 136 [l0, l1] [.ref x, .ref a] m Q ↔ (mS m a).1 = 11 ∧ AW d 140 139 [l0, l1] [] (cR m a (jup (mR m a) 13 (some x))) Q := A_putR hB_X11_init dX11_init_136 hO_X11_init fF_11_81 rfl (fun _ => ⟨rfl, rfl⟩)
theorem tX11_init_136q {d : Nat} {l0 l1 : Option Value} {x : Option Nat} {a : Nat} {m : jmM} {Q : Option Value → jmM → Prop} : AW d 140 136 [l0, l1] [va_rf x, .ref a] m Q ↔ (mS m a).1 = 11 ∧ AW d 140 139 [l0, l1] [] (cR m a (jup (mR m a) 13 x)) Q := A_putQ hB_X11_init dX11_init_136 hO_X11_init fF_11_81 rfl (fun _ => ⟨rfl, rfl⟩)
theorem tX11_init_136n {d : Nat} {l0 l1 : Option Value} {a : Nat} {m : jmM} {Q : Option Value → jmM → Prop} : AW d 140 136 [l0, l1] [.null, .ref a] m Q ↔ (mS m a).1 = 11 ∧ AW d 140 139 [l0, l1] [] (cR m a (jup (mR m a) 13 none)) Q := A_putQ (x := none) hB_X11_init dX11_init_136 hO_X11_init fF_11_81 rfl (fun _ => ⟨rfl, rfl⟩)
theorem dX11_init_139 : decode cX11_init 139 = .ok (.aload_n 0, 1) := by decide +kernel
theorem tX11_init_139 {d : Nat} {l1 : Option Value} {x : Nat} {m : jmM} {Q : Option Value → jmM → Prop} : AW d 140 139 [some (.ref x), l1] [] m Q ↔ AW d 140 140 [some (.ref x), l1] [.ref x] m Q := A_aload_n hB_X11_init dX11_init_139 rfl
theorem dX11_init_140 : decode cX11_init 140 = .ok (.new 85, 3) := by decide +kernel
theorem tX11_init_140 {d : Nat} {l0 l1 : Option Value} {v0 : Value} {m : jmM} {Q : Option Value → jmM → Prop} : AW d 140 140 [l0, l1] [v0] m Q ↔ AW d 140 143 [l0, l1] [.ref (mN m), v0] (jNew m 7 8) Q := A_new hB_X11_init dX11_init_140 hO_X11_init fN_11_85 rfl
theorem dX11_init_143 : decode cX11_init 143 = .ok (.dup, 1) := by decide +kernel
theorem tX11_init_143 {d : Nat} {l0 l1 : Option Value} {v1 : Value} {x : Nat} {m : jmM} {Q : Option Value → jmM → Prop} : AW d 140 143 [l0, l1] [.ref x, v1] m Q ↔ AW d 140 144 [l0, l1] [.ref x, .ref x, v1] m Q := A_dup_a hB_X11_init dX11_init_143
theorem dX11_init_144 : decode cX11_init 144 = .ok (.invokespecial 87, 3) := by decide +kernel
theorem tX11_init_144 {d : Nat} {l0 l1 : Option Value} {v1 v2 : Value} {a : Nat} {m : jmM} {Q : Option Value → jmM → Prop} : AW d 140 144 [l0, l1] [.ref a, v1, v2] m Q ↔ CC d 112 [.ref a] m (jK d 140 147 [l0, l1] [v1, v2] Q) := A_callI5 hB_X11_init dX11_init_144 hO_X11_init fS_11_87 ⟨Nat.le_of_ble_eq_true rfl, Nat.le_of_ble_eq_true rfl⟩ rfl rfl
theorem dX11_init_147 : decode cX11_init 147 = .ok (.putfield 88, 3) := by decide +kernel
theorem tX11_init_147 {d : Nat} {l0 l1 : Option Value} {x a : Nat} {m : jmM} {Q : Option Value → jmM → Prop} : AW d 140 147 [l0, l1] [.ref x, .ref a] m Q ↔ (mS m a).1 = 11 ∧ AW d 140 150 [l0, l1] [] (cR m a (jup (mR m a) 14 (some x))) Q := A_putR hB_X11_init dX11_init_147 hO_X11_init fF_11_88 rfl (fun _ => ⟨rfl, rfl⟩)
theorem tX11_init_147q {d : Nat} {l0 l1 : Option Value} {x : Option Nat} {a : Nat} {m : jmM} {Q : Option Value → jmM → Prop} : AW d 140 147 [l0, l1] [va_rf x, .ref a] m Q ↔ (mS m a).1 = 11 ∧ AW d 140 150 [l0, l1] [] (cR m a (jup (mR m a) 14 x)) Q := A_putQ hB_X11_init dX11_init_147 hO_X11_init fF_11_88 rfl (fun _ => ⟨rfl, rfl⟩)
theorem tX11_init_147n {d : Nat} {l0 l1 : Option Value} {a : Nat} {m : jmM} {Q : Option Value → jmM → Prop} : AW d 140 147 [l0, l1] [.null, .ref a] m Q ↔ (mS m a).1 = 11 ∧ AW d 140 150 [l0, l1] [] (cR m a (jup (mR m a) 14 none)) Q := A_putQ (x := none) hB_X11_init dX11_init_147 hO_X11_init fF_11_88 rfl (fun _ => ⟨rfl, rfl⟩)
theorem dX11_init_150 : decode cX11_init 150 = .ok (.aload_n 0, 1) := by decide +kernel
theorem tX11_init_150 {d : Nat} {l1 : Option Value} {x : Nat} {m : jmM} {Q : Option Value → jmM → Prop} : AW d 140 150 [some (.ref x), l1] [] m Q ↔ AW d 140 151 [some (.ref x), l1] [.ref x] m Q := A_aload_n hB_X11_init dX11_init_150 rfl
theorem dX11_init_151 : decode cX11_init 151 = .ok (.sipush 600, 3) := by decide +kernel
theorem tX11_init_151 {d : Nat} {l0 l1 : Option Value} {v0 : Value} {m : jmM} {Q : Option Value → jmM → Prop} : AW d 140 151 [l0, l1] [v0] m Q ↔ AW d 140 154 [l0, l1] [.int 600, v0] m Q := A_sipush hB_X11_init dX11_init_151 rfl
theorem dX11_init_154 : decode cX11_init 154 = .ok (.newarray .long, 2) := by decide +kernel
theorem tX11_init_154 {d : Nat} {l0 l1 : Option Value} {v1 : Value} {x : Int32} {m : jmM} {Q : Option Value → jmM → Prop} : AW d 140 154 [l0, l1] [.int x, v1] m Q ↔ (0 ≤ x.toInt ∧ x.toInt ≤ 100000) ∧ AW d 140 156 [l0, l1] [.ref (mN m), v1] (jNew m 21 (jx x)) Q := A_newarray hB_X11_init dX11_init_154 rfl
theorem dX11_init_156 : decode cX11_init 156 = .ok (.putfield 92, 3) := by decide +kernel
theorem tX11_init_156 {d : Nat} {l0 l1 : Option Value} {x a : Nat} {m : jmM} {Q : Option Value → jmM → Prop} : AW d 140 156 [l0, l1] [.ref x, .ref a] m Q ↔ (mS m a).1 = 11 ∧ AW d 140 159 [l0, l1] [] (cR m a (jup (mR m a) 15 (some x))) Q := A_putR hB_X11_init dX11_init_156 hO_X11_init fF_11_92 rfl (fun _ => ⟨rfl, rfl⟩)
theorem tX11_init_156q {d : Nat} {l0 l1 : Option Value} {x : Option Nat} {a : Nat} {m : jmM} {Q : Option Value → jmM → Prop} : AW d 140 156 [l0, l1] [va_rf x, .ref a] m Q ↔ (mS m a).1 = 11 ∧ AW d 140 159 [l0, l1] [] (cR m a (jup (mR m a) 15 x)) Q := A_putQ hB_X11_init dX11_init_156 hO_X11_init fF_11_92 rfl (fun _ => ⟨rfl, rfl⟩)
theorem tX11_init_156n {d : Nat} {l0 l1 : Option Value} {a : Nat} {m : jmM} {Q : Option Value → jmM → Prop} : AW d 140 156 [l0, l1] [.null, .ref a] m Q ↔ (mS m a).1 = 11 ∧ AW d 140 159 [l0, l1] [] (cR m a (jup (mR m a) 15 none)) Q := A_putQ (x := none) hB_X11_init dX11_init_156 hO_X11_init fF_11_92 rfl (fun _ => ⟨rfl, rfl⟩)
theorem dX11_init_159 : decode cX11_init 159 = .ok (.aload_n 0, 1) := by decide +kernel
theorem tX11_init_159 {d : Nat} {l1 : Option Value} {x : Nat} {m : jmM} {Q : Option Value → jmM → Prop} : AW d 140 159 [some (.ref x), l1] [] m Q ↔ AW d 140 160 [some (.ref x), l1] [.ref x] m Q := A_aload_n hB_X11_init dX11_init_159 rfl
theorem dX11_init_160 : decode cX11_init 160 = .ok (.sipush 200, 3) := by decide +kernel
theorem tX11_init_160 {d : Nat} {l0 l1 : Option Value} {v0 : Value} {m : jmM} {Q : Option Value → jmM → Prop} : AW d 140 160 [l0, l1] [v0] m Q ↔ AW d 140 163 [l0, l1] [.int 200, v0] m Q := A_sipush hB_X11_init dX11_init_160 rfl
theorem dX11_init_163 : decode cX11_init 163 = .ok (.newarray .int, 2) := by decide +kernel
theorem tX11_init_163 {d : Nat} {l0 l1 : Option Value} {v1 : Value} {x : Int32} {m : jmM} {Q : Option Value → jmM → Prop} : AW d 140 163 [l0, l1] [.int x, v1] m Q ↔ (0 ≤ x.toInt ∧ x.toInt ≤ 100000) ∧ AW d 140 165 [l0, l1] [.ref (mN m), v1] (jNew m 20 (jx x)) Q := A_newarray hB_X11_init dX11_init_163 rfl
theorem dX11_init_165 : decode cX11_init 165 = .ok (.putfield 96, 3) := by decide +kernel
theorem tX11_init_165 {d : Nat} {l0 l1 : Option Value} {x a : Nat} {m : jmM} {Q : Option Value → jmM → Prop} : AW d 140 165 [l0, l1] [.ref x, .ref a] m Q ↔ (mS m a).1 = 11 ∧ AW d 140 168 [l0, l1] [] (cR m a (jup (mR m a) 16 (some x))) Q := A_putR hB_X11_init dX11_init_165 hO_X11_init fF_11_96 rfl (fun _ => ⟨rfl, rfl⟩)
theorem tX11_init_165q {d : Nat} {l0 l1 : Option Value} {x : Option Nat} {a : Nat} {m : jmM} {Q : Option Value → jmM → Prop} : AW d 140 165 [l0, l1] [va_rf x, .ref a] m Q ↔ (mS m a).1 = 11 ∧ AW d 140 168 [l0, l1] [] (cR m a (jup (mR m a) 16 x)) Q := A_putQ hB_X11_init dX11_init_165 hO_X11_init fF_11_96 rfl (fun _ => ⟨rfl, rfl⟩)
theorem tX11_init_165n {d : Nat} {l0 l1 : Option Value} {a : Nat} {m : jmM} {Q : Option Value → jmM → Prop} : AW d 140 165 [l0, l1] [.null, .ref a] m Q ↔ (mS m a).1 = 11 ∧ AW d 140 168 [l0, l1] [] (cR m a (jup (mR m a) 16 none)) Q := A_putQ (x := none) hB_X11_init dX11_init_165 hO_X11_init fF_11_96 rfl (fun _ => ⟨rfl, rfl⟩)
theorem dX11_init_168 : decode cX11_init 168 = .ok (.aload_n 0, 1) := by decide +kernel
theorem tX11_init_168 {d : Nat} {l1 : Option Value} {x : Nat} {m : jmM} {Q : Option Value → jmM → Prop} : AW d 140 168 [some (.ref x), l1] [] m Q ↔ AW d 140 169 [some (.ref x), l1] [.ref x] m Q := A_aload_n hB_X11_init dX11_init_168 rfl
theorem dX11_init_169 : decode cX11_init 169 = .ok (.sipush 200, 3) := by decide +kernel
theorem tX11_init_169 {d : Nat} {l0 l1 : Option Value} {v0 : Value} {m : jmM} {Q : Option Value → jmM → Prop} : AW d 140 169 [l0, l1] [v0] m Q ↔ AW d 140 172 [l0, l1] [.int 200, v0] m Q := A_sipush hB_X11_init dX11_init_169 rfl
theorem dX11_init_172 : decode cX11_init 172 = .ok (.newarray .int, 2) := by decide +kernel
theorem tX11_init_172 {d : Nat} {l0 l1 : Option Value} {v1 : Value} {x : Int32} {m : jmM} {Q : Option Value → jmM → Prop} : AW d 140 172 [l0, l1] [.int x, v1] m Q ↔ (0 ≤ x.toInt ∧ x.toInt ≤ 100000) ∧ AW d 140 174 [l0, l1] [.ref (mN m), v1] (jNew m 20 (jx x)) Q := A_newarray hB_X11_init dX11_init_172 rfl
theorem dX11_init_174 : decode cX11_init 174 = .ok (.putfield 99, 3) := by decide +kernel
theorem tX11_init_174 {d : Nat} {l0 l1 : Option Value} {x a : Nat} {m : jmM} {Q : Option Value → jmM → Prop} : AW d 140 174 [l0, l1] [.ref x, .ref a] m Q ↔ (mS m a).1 = 11 ∧ AW d 140 177 [l0, l1] [] (cR m a (jup (mR m a) 17 (some x))) Q := A_putR hB_X11_init dX11_init_174 hO_X11_init fF_11_99 rfl (fun _ => ⟨rfl, rfl⟩)
theorem tX11_init_174q {d : Nat} {l0 l1 : Option Value} {x : Option Nat} {a : Nat} {m : jmM} {Q : Option Value → jmM → Prop} : AW d 140 174 [l0, l1] [va_rf x, .ref a] m Q ↔ (mS m a).1 = 11 ∧ AW d 140 177 [l0, l1] [] (cR m a (jup (mR m a) 17 x)) Q := A_putQ hB_X11_init dX11_init_174 hO_X11_init fF_11_99 rfl (fun _ => ⟨rfl, rfl⟩)
theorem tX11_init_174n {d : Nat} {l0 l1 : Option Value} {a : Nat} {m : jmM} {Q : Option Value → jmM → Prop} : AW d 140 174 [l0, l1] [.null, .ref a] m Q ↔ (mS m a).1 = 11 ∧ AW d 140 177 [l0, l1] [] (cR m a (jup (mR m a) 17 none)) Q := A_putQ (x := none) hB_X11_init dX11_init_174 hO_X11_init fF_11_99 rfl (fun _ => ⟨rfl, rfl⟩)
theorem dX11_init_177 : decode cX11_init 177 = .ok (.aload_n 0, 1) := by decide +kernel
theorem tX11_init_177 {d : Nat} {l1 : Option Value} {x : Nat} {m : jmM} {Q : Option Value → jmM → Prop} : AW d 140 177 [some (.ref x), l1] [] m Q ↔ AW d 140 178 [some (.ref x), l1] [.ref x] m Q := A_aload_n hB_X11_init dX11_init_177 rfl
theorem dX11_init_178 : decode cX11_init 178 = .ok (.iconst 0, 1) := by decide +kernel
theorem tX11_init_178 {d : Nat} {l0 l1 : Option Value} {v0 : Value} {m : jmM} {Q : Option Value → jmM → Prop} : AW d 140 178 [l0, l1] [v0] m Q ↔ AW d 140 179 [l0, l1] [.int 0, v0] m Q := A_iconst hB_X11_init dX11_init_178 (by decide)
theorem dX11_init_179 : decode cX11_init 179 = .ok (.putfield 102, 3) := by decide +kernel
theorem tX11_init_179 {d : Nat} {l0 l1 : Option Value} {x : Int32} {a : Nat} {m : jmM} {Q : Option Value → jmM → Prop} : AW d 140 179 [l0, l1] [.int x, .ref a] m Q ↔ (mS m a).1 = 11 ∧ AW d 140 182 [l0, l1] [] (cI m a (jup (mI m a) 18 x)) Q := A_putI hB_X11_init dX11_init_179 hO_X11_init fF_11_102 rfl (fun h => Bool.noConfusion h)
theorem dX11_init_182 : decode cX11_init 182 = .ok (.iconst 0, 1) := by decide +kernel
theorem tX11_init_182 {d : Nat} {l0 l1 : Option Value} {m : jmM} {Q : Option Value → jmM → Prop} : AW d 140 182 [l0, l1] [] m Q ↔ AW d 140 183 [l0, l1] [.int 0] m Q := A_iconst hB_X11_init dX11_init_182 (by decide)
theorem dX11_init_183 : decode cX11_init 183 = .ok (.istore_n 1, 1) := by decide +kernel
theorem tX11_init_183 {d : Nat} {l0 l1 : Option Value} {x : Int32} {m : jmM} {Q : Option Value → jmM → Prop} : AW d 140 183 [l0, l1] [.int x] m Q ↔ AW d 140 184 [jc1 l0, some (.int x)] [] m Q := A_istore_n hB_X11_init dX11_init_183 (Nat.le_of_ble_eq_true rfl) rfl
theorem dX11_init_184 : decode cX11_init 184 = .ok (.iload_n 1, 1) := by decide +kernel
theorem tX11_init_184 {d : Nat} {l0 : Option Value} {x : Int32} {m : jmM} {Q : Option Value → jmM → Prop} : AW d 140 184 [l0, some (.int x)] [] m Q ↔ AW d 140 185 [l0, some (.int x)] [.int x] m Q := A_iload_n hB_X11_init dX11_init_184 rfl
theorem dX11_init_185 : decode cX11_init 185 = .ok (.bipush 6, 2) := by decide +kernel
theorem tX11_init_185 {d : Nat} {l0 l1 : Option Value} {v0 : Value} {m : jmM} {Q : Option Value → jmM → Prop} : AW d 140 185 [l0, l1] [v0] m Q ↔ AW d 140 187 [l0, l1] [.int 6, v0] m Q := A_bipush hB_X11_init dX11_init_185 rfl
theorem dX11_init_187 : decode cX11_init 187 = .ok (.if_icmp .ge 18, 3) := by decide +kernel
theorem tX11_init_187 {d : Nat} {l0 l1 : Option Value} {x y : Int32} {m : jmM} {Q : Option Value → jmM → Prop} : AW d 140 187 [l0, l1] [.int y, .int x] m Q ↔ if y ≤ x then AW d 140 205 [l0, l1] [] m Q else AW d 140 190 [l0, l1] [] m Q := A_icmp_ge hB_X11_init dX11_init_187 (by decide)
theorem dX11_init_190 : decode cX11_init 190 = .ok (.aload_n 0, 1) := by decide +kernel
theorem tX11_init_190 {d : Nat} {l1 : Option Value} {x : Nat} {m : jmM} {Q : Option Value → jmM → Prop} : AW d 140 190 [some (.ref x), l1] [] m Q ↔ AW d 140 191 [some (.ref x), l1] [.ref x] m Q := A_aload_n hB_X11_init dX11_init_190 rfl
theorem dX11_init_191 : decode cX11_init 191 = .ok (.getfield 46, 3) := by decide +kernel
theorem tX11_init_191 {d : Nat} {l0 l1 : Option Value} {a : Nat} {m : jmM} {Q : Option Value → jmM → Prop} : AW d 140 191 [l0, l1] [.ref a] m Q ↔ (mS m a).1 = 11 ∧ AW d 140 194 [l0, l1] [va_rf (mR m a 6)] m Q := A_getfield (f := fun m a => va_rf (mR m a 6)) hB_X11_init dX11_init_191 hO_X11_init fF_11_46 rfl
theorem dX11_init_194 : decode cX11_init 194 = .ok (.iload_n 1, 1) := by decide +kernel
theorem tX11_init_194 {d : Nat} {l0 : Option Value} {v0 : Value} {x : Int32} {m : jmM} {Q : Option Value → jmM → Prop} : AW d 140 194 [l0, some (.int x)] [v0] m Q ↔ AW d 140 195 [l0, some (.int x)] [.int x, v0] m Q := A_iload_n hB_X11_init dX11_init_194 rfl
theorem dX11_init_195 : decode cX11_init 195 = .ok (.sipush 1000, 3) := by decide +kernel
theorem tX11_init_195 {d : Nat} {l0 l1 : Option Value} {v0 v1 : Value} {m : jmM} {Q : Option Value → jmM → Prop} : AW d 140 195 [l0, l1] [v0, v1] m Q ↔ AW d 140 198 [l0, l1] [.int 1000, v0, v1] m Q := A_sipush hB_X11_init dX11_init_195 rfl
theorem dX11_init_198 : decode cX11_init 198 = .ok (.iastore, 1) := by decide +kernel
theorem tX11_init_198 {d : Nat} {l0 l1 : Option Value} {x i : Int32} {a : Nat} {m : jmM} {Q : Option Value → jmM → Prop} : AW d 140 198 [l0, l1] [.int x, .int i, .ref a] m Q ↔ ((mS m a).1 = 20 ∧ jIx i (mS m a).2) ∧ AW d 140 199 [l0, l1] [] (cI m a (jup (mI m a) (jx i) x)) Q := A_iastore hB_X11_init dX11_init_198
theorem dX11_init_199 : decode cX11_init 199 = .ok (.iinc 1 1, 3) := by decide +kernel
theorem tX11_init_199 {d : Nat} {l0 : Option Value} {x : Int32} {m : jmM} {Q : Option Value → jmM → Prop} : AW d 140 199 [l0, some (.int x)] [] m Q ↔ AW d 140 202 [jc1 l0, some (.int (x + 1))] [] m Q := A_iinc hB_X11_init dX11_init_199 rfl (Nat.le_of_ble_eq_true rfl) (v := 1) (by decide) rfl
theorem dX11_init_202 : decode cX11_init 202 = .ok (.goto (-18), 3) := by decide +kernel
theorem tX11_init_202 {d : Nat} {l0 l1 : Option Value} {m : jmM} {Q : Option Value → jmM → Prop} : AW d 140 202 [l0, l1] [] m Q ↔ AW d 140 184 [l0, l1] [] m Q := A_goto hB_X11_init dX11_init_202 (by decide)
theorem dX11_init_205 : decode cX11_init 205 = .ok (.iconst 0, 1) := by decide +kernel
theorem tX11_init_205 {d : Nat} {l0 l1 : Option Value} {m : jmM} {Q : Option Value → jmM → Prop} : AW d 140 205 [l0, l1] [] m Q ↔ AW d 140 206 [l0, l1] [.int 0] m Q := A_iconst hB_X11_init dX11_init_205 (by decide)
theorem dX11_init_206 : decode cX11_init 206 = .ok (.istore_n 1, 1) := by decide +kernel
theorem tX11_init_206 {d : Nat} {l0 l1 : Option Value} {x : Int32} {m : jmM} {Q : Option Value → jmM → Prop} : AW d 140 206 [l0, l1] [.int x] m Q ↔ AW d 140 207 [jc1 l0, some (.int x)] [] m Q := A_istore_n hB_X11_init dX11_init_206 (Nat.le_of_ble_eq_true rfl) rfl
theorem dX11_init_207 : decode cX11_init 207 = .ok (.iload_n 1, 1) := by decide +kernel
theorem tX11_init_207 {d : Nat} {l0 : Option Value} {x : Int32} {m : jmM} {Q : Option Value → jmM → Prop} : AW d 140 207 [l0, some (.int x)] [] m Q ↔ AW d 140 208 [l0, some (.int x)] [.int x] m Q := A_iload_n hB_X11_init dX11_init_207 rfl
theorem dX11_init_208 : decode cX11_init 208 = .ok (.iconst 4, 1) := by decide +kernel
theorem tX11_init_208 {d : Nat} {l0 l1 : Option Value} {v0 : Value} {m : jmM} {Q : Option Value → jmM → Prop} : AW d 140 208 [l0, l1] [v0] m Q ↔ AW d 140 209 [l0, l1] [.int 4, v0] m Q := A_iconst hB_X11_init dX11_init_208 (by decide)
theorem dX11_init_209 : decode cX11_init 209 = .ok (.if_icmp .ge 22, 3) := by decide +kernel
theorem tX11_init_209 {d : Nat} {l0 l1 : Option Value} {x y : Int32} {m : jmM} {Q : Option Value → jmM → Prop} : AW d 140 209 [l0, l1] [.int y, .int x] m Q ↔ if y ≤ x then AW d 140 231 [l0, l1] [] m Q else AW d 140 212 [l0, l1] [] m Q := A_icmp_ge hB_X11_init dX11_init_209 (by decide)
theorem dX11_init_212 : decode cX11_init 212 = .ok (.aload_n 0, 1) := by decide +kernel
theorem tX11_init_212 {d : Nat} {l1 : Option Value} {x : Nat} {m : jmM} {Q : Option Value → jmM → Prop} : AW d 140 212 [some (.ref x), l1] [] m Q ↔ AW d 140 213 [some (.ref x), l1] [.ref x] m Q := A_aload_n hB_X11_init dX11_init_212 rfl
theorem dX11_init_213 : decode cX11_init 213 = .ok (.getfield 65, 3) := by decide +kernel
theorem tX11_init_213 {d : Nat} {l0 l1 : Option Value} {a : Nat} {m : jmM} {Q : Option Value → jmM → Prop} : AW d 140 213 [l0, l1] [.ref a] m Q ↔ (mS m a).1 = 11 ∧ AW d 140 216 [l0, l1] [va_rf (mR m a 10)] m Q := A_getfield (f := fun m a => va_rf (mR m a 10)) hB_X11_init dX11_init_213 hO_X11_init fF_11_65 rfl
theorem dX11_init_216 : decode cX11_init 216 = .ok (.iload_n 1, 1) := by decide +kernel
theorem tX11_init_216 {d : Nat} {l0 : Option Value} {v0 : Value} {x : Int32} {m : jmM} {Q : Option Value → jmM → Prop} : AW d 140 216 [l0, some (.int x)] [v0] m Q ↔ AW d 140 217 [l0, some (.int x)] [.int x, v0] m Q := A_iload_n hB_X11_init dX11_init_216 rfl
theorem dX11_init_217 : decode cX11_init 217 = .ok (.new 63, 3) := by decide +kernel
theorem tX11_init_217 {d : Nat} {l0 l1 : Option Value} {v0 v1 : Value} {m : jmM} {Q : Option Value → jmM → Prop} : AW d 140 217 [l0, l1] [v0, v1] m Q ↔ AW d 140 220 [l0, l1] [.ref (mN m), v0, v1] (jNew m 2 5) Q := A_new hB_X11_init dX11_init_217 hO_X11_init fN_11_63 rfl
theorem dX11_init_220 : decode cX11_init 220 = .ok (.dup, 1) := by decide +kernel
theorem tX11_init_220 {d : Nat} {l0 l1 : Option Value} {v1 v2 : Value} {x : Nat} {m : jmM} {Q : Option Value → jmM → Prop} : AW d 140 220 [l0, l1] [.ref x, v1, v2] m Q ↔ AW d 140 221 [l0, l1] [.ref x, .ref x, v1, v2] m Q := A_dup_a hB_X11_init dX11_init_220
theorem dX11_init_221 : decode cX11_init 221 = .ok (.invokespecial 105, 3) := by decide +kernel
theorem tX11_init_221 {d : Nat} {l0 l1 : Option Value} {v1 v2 v3 : Value} {a : Nat} {m : jmM} {Q : Option Value → jmM → Prop} : AW d 140 221 [l0, l1] [.ref a, v1, v2, v3] m Q ↔ CC d 18 [.ref a] m (jK d 140 224 [l0, l1] [v1, v2, v3] Q) := A_callI5 hB_X11_init dX11_init_221 hO_X11_init fS_11_105 ⟨Nat.le_of_ble_eq_true rfl, Nat.le_of_ble_eq_true rfl⟩ rfl rfl
theorem dX11_init_224 : decode cX11_init 224 = .ok (.aastore, 1) := by decide +kernel
theorem tX11_init_224 {d : Nat} {l0 l1 : Option Value} {v a : Nat} {i : Int32} {m : jmM} {Q : Option Value → jmM → Prop} : AW d 140 224 [l0, l1] [.ref v, .int i, .ref a] m Q ↔ (24 ≤ (mS m a).1 ∧ (mS m a).1 ≤ 26 ∧ (mS m v).1 = (if (mS m a).1 = 24 then 3 else if (mS m a).1 = 25 then 2 else 10) ∧ jIx i (mS m a).2) ∧ AW d 140 225 [l0, l1] [] (cR m a (jup (mR m a) (jx i) (some v))) Q := A_aastore hB_X11_init dX11_init_224
theorem dX11_init_225 : decode cX11_init 225 = .ok (.iinc 1 1, 3) := by decide +kernel
theorem tX11_init_225 {d : Nat} {l0 : Option Value} {x : Int32} {m : jmM} {Q : Option Value → jmM → Prop} : AW d 140 225 [l0, some (.int x)] [] m Q ↔ AW d 140 228 [jc1 l0, some (.int (x + 1))] [] m Q := A_iinc hB_X11_init dX11_init_225 rfl (Nat.le_of_ble_eq_true rfl) (v := 1) (by decide) rfl
theorem dX11_init_228 : decode cX11_init 228 = .ok (.goto (-21), 3) := by decide +kernel
theorem tX11_init_228 {d : Nat} {l0 l1 : Option Value} {m : jmM} {Q : Option Value → jmM → Prop} : AW d 140 228 [l0, l1] [] m Q ↔ AW d 140 207 [l0, l1] [] m Q := A_goto hB_X11_init dX11_init_228 (by decide)
theorem dX11_init_231 : decode cX11_init 231 = .ok (.iconst 0, 1) := by decide +kernel
theorem tX11_init_231 {d : Nat} {l0 l1 : Option Value} {m : jmM} {Q : Option Value → jmM → Prop} : AW d 140 231 [l0, l1] [] m Q ↔ AW d 140 232 [l0, l1] [.int 0] m Q := A_iconst hB_X11_init dX11_init_231 (by decide)
theorem dX11_init_232 : decode cX11_init 232 = .ok (.istore_n 1, 1) := by decide +kernel
theorem tX11_init_232 {d : Nat} {l0 l1 : Option Value} {x : Int32} {m : jmM} {Q : Option Value → jmM → Prop} : AW d 140 232 [l0, l1] [.int x] m Q ↔ AW d 140 233 [jc1 l0, some (.int x)] [] m Q := A_istore_n hB_X11_init dX11_init_232 (Nat.le_of_ble_eq_true rfl) rfl
theorem dX11_init_233 : decode cX11_init 233 = .ok (.iload_n 1, 1) := by decide +kernel
theorem tX11_init_233 {d : Nat} {l0 : Option Value} {x : Int32} {m : jmM} {Q : Option Value → jmM → Prop} : AW d 140 233 [l0, some (.int x)] [] m Q ↔ AW d 140 234 [l0, some (.int x)] [.int x] m Q := A_iload_n hB_X11_init dX11_init_233 rfl
theorem dX11_init_234 : decode cX11_init 234 = .ok (.bipush 8, 2) := by decide +kernel
theorem tX11_init_234 {d : Nat} {l0 l1 : Option Value} {v0 : Value} {m : jmM} {Q : Option Value → jmM → Prop} : AW d 140 234 [l0, l1] [v0] m Q ↔ AW d 140 236 [l0, l1] [.int 8, v0] m Q := A_bipush hB_X11_init dX11_init_234 rfl
theorem dX11_init_236 : decode cX11_init 236 = .ok (.if_icmp .ge 22, 3) := by decide +kernel
theorem tX11_init_236 {d : Nat} {l0 l1 : Option Value} {x y : Int32} {m : jmM} {Q : Option Value → jmM → Prop} : AW d 140 236 [l0, l1] [.int y, .int x] m Q ↔ if y ≤ x then AW d 140 258 [l0, l1] [] m Q else AW d 140 239 [l0, l1] [] m Q := A_icmp_ge hB_X11_init dX11_init_236 (by decide)
theorem dX11_init_239 : decode cX11_init 239 = .ok (.aload_n 0, 1) := by decide +kernel
theorem tX11_init_239 {d : Nat} {l1 : Option Value} {x : Nat} {m : jmM} {Q : Option Value → jmM → Prop} : AW d 140 239 [some (.ref x), l1] [] m Q ↔ AW d 140 240 [some (.ref x), l1] [.ref x] m Q := A_aload_n hB_X11_init dX11_init_239 rfl
theorem dX11_init_240 : decode cX11_init 240 = .ok (.getfield 71, 3) := by decide +kernel
theorem tX11_init_240 {d : Nat} {l0 l1 : Option Value} {a : Nat} {m : jmM} {Q : Option Value → jmM → Prop} : AW d 140 240 [l0, l1] [.ref a] m Q ↔ (mS m a).1 = 11 ∧ AW d 140 243 [l0, l1] [va_rf (mR m a 11)] m Q := A_getfield (f := fun m a => va_rf (mR m a 11)) hB_X11_init dX11_init_240 hO_X11_init fF_11_71 rfl
theorem dX11_init_243 : decode cX11_init 243 = .ok (.iload_n 1, 1) := by decide +kernel
theorem tX11_init_243 {d : Nat} {l0 : Option Value} {v0 : Value} {x : Int32} {m : jmM} {Q : Option Value → jmM → Prop} : AW d 140 243 [l0, some (.int x)] [v0] m Q ↔ AW d 140 244 [l0, some (.int x)] [.int x, v0] m Q := A_iload_n hB_X11_init dX11_init_243 rfl
theorem dX11_init_244 : decode cX11_init 244 = .ok (.new 69, 3) := by decide +kernel
theorem tX11_init_244 {d : Nat} {l0 l1 : Option Value} {v0 v1 : Value} {m : jmM} {Q : Option Value → jmM → Prop} : AW d 140 244 [l0, l1] [v0, v1] m Q ↔ AW d 140 247 [l0, l1] [.ref (mN m), v0, v1] (jNew m 10 6) Q := A_new hB_X11_init dX11_init_244 hO_X11_init fN_11_69 rfl
theorem dX11_init_247 : decode cX11_init 247 = .ok (.dup, 1) := by decide +kernel
theorem tX11_init_247 {d : Nat} {l0 l1 : Option Value} {v1 v2 : Value} {x : Nat} {m : jmM} {Q : Option Value → jmM → Prop} : AW d 140 247 [l0, l1] [.ref x, v1, v2] m Q ↔ AW d 140 248 [l0, l1] [.ref x, .ref x, v1, v2] m Q := A_dup_a hB_X11_init dX11_init_247
theorem dX11_init_248 : decode cX11_init 248 = .ok (.invokespecial 106, 3) := by decide +kernel
theorem tX11_init_248 {d : Nat} {l0 l1 : Option Value} {v1 v2 v3 : Value} {a : Nat} {m : jmM} {Q : Option Value → jmM → Prop} : AW d 140 248 [l0, l1] [.ref a, v1, v2, v3] m Q ↔ CC d 135 [.ref a] m (jK d 140 251 [l0, l1] [v1, v2, v3] Q) := A_callI5 hB_X11_init dX11_init_248 hO_X11_init fS_11_106 ⟨Nat.le_of_ble_eq_true rfl, Nat.le_of_ble_eq_true rfl⟩ rfl rfl
theorem dX11_init_251 : decode cX11_init 251 = .ok (.aastore, 1) := by decide +kernel
theorem tX11_init_251 {d : Nat} {l0 l1 : Option Value} {v a : Nat} {i : Int32} {m : jmM} {Q : Option Value → jmM → Prop} : AW d 140 251 [l0, l1] [.ref v, .int i, .ref a] m Q ↔ (24 ≤ (mS m a).1 ∧ (mS m a).1 ≤ 26 ∧ (mS m v).1 = (if (mS m a).1 = 24 then 3 else if (mS m a).1 = 25 then 2 else 10) ∧ jIx i (mS m a).2) ∧ AW d 140 252 [l0, l1] [] (cR m a (jup (mR m a) (jx i) (some v))) Q := A_aastore hB_X11_init dX11_init_251
theorem dX11_init_252 : decode cX11_init 252 = .ok (.iinc 1 1, 3) := by decide +kernel
theorem tX11_init_252 {d : Nat} {l0 : Option Value} {x : Int32} {m : jmM} {Q : Option Value → jmM → Prop} : AW d 140 252 [l0, some (.int x)] [] m Q ↔ AW d 140 255 [jc1 l0, some (.int (x + 1))] [] m Q := A_iinc hB_X11_init dX11_init_252 rfl (Nat.le_of_ble_eq_true rfl) (v := 1) (by decide) rfl
theorem dX11_init_255 : decode cX11_init 255 = .ok (.goto (-22), 3) := by decide +kernel
theorem tX11_init_255 {d : Nat} {l0 l1 : Option Value} {m : jmM} {Q : Option Value → jmM → Prop} : AW d 140 255 [l0, l1] [] m Q ↔ AW d 140 233 [l0, l1] [] m Q := A_goto hB_X11_init dX11_init_255 (by decide)
theorem dX11_init_258 : decode cX11_init 258 = .ok (.return_, 1) := by decide +kernel
theorem tX11_init_258 {d : Nat} {l0 l1 : Option Value} {m : jmM} {Q : Option Value → jmM → Prop} : AW d 140 258 [l0, l1] [] m Q ↔ Q none m := A_return hB_X11_init dX11_init_258 hR_X11_init
theorem hB_X11_feed : jB 141 = cX11_feed := rfl
theorem hO_X11_feed : jO 141 = 11 := rfl
theorem hR_X11_feed : jRt 141 = (some .int) := rfl
theorem nX11_feed (d : Nat) (x0 : Nat) (x1 : Int32) (x2 : Int32) (x3 : Int32) (x4 : Int32) (x5 : Int32) (m : jmM) (Q : Option Value → jmM → Prop) : CC (d + 1) 141 [.ref x0, .int x1, .int x2, .int x3, .int x4, .int x5] m Q ↔ AW d 141 0 [some (.ref x0), some (.int x1), some (.int x2), some (.int x3), some (.int x4), some (.int x5)] [] m Q := CC_body (Nat.le_of_ble_eq_true rfl)
theorem dX11_feed_0 : decode cX11_feed 0 = .ok (.aload_n 0, 1) := by decide +kernel
theorem tX11_feed_0 {d : Nat} {l1 l2 l3 l4 l5 : Option Value} {x : Nat} {m : jmM} {Q : Option Value → jmM → Prop} : AW d 141 0 [some (.ref x), l1, l2, l3, l4, l5] [] m Q ↔ AW d 141 1 [some (.ref x), l1, l2, l3, l4, l5] [.ref x] m Q := A_aload_n hB_X11_feed dX11_feed_0 rfl
theorem dX11_feed_1 : decode cX11_feed 1 = .ok (.getfield 20, 3) := by decide +kernel
theorem tX11_feed_1 {d : Nat} {l0 l1 l2 l3 l4 l5 : Option Value} {a : Nat} {m : jmM} {Q : Option Value → jmM → Prop} : AW d 141 1 [l0, l1, l2, l3, l4, l5] [.ref a] m Q ↔ (mS m a).1 = 11 ∧ AW d 141 4 [l0, l1, l2, l3, l4, l5] [va_rf (mR m a 1)] m Q := A_getfield (f := fun m a => va_rf (mR m a 1)) hB_X11_feed dX11_feed_1 hO_X11_feed fF_11_20 rfl
theorem dX11_feed_4 : decode cX11_feed 4 = .ok (.invokevirtual 107, 3) := by decide +kernel
theorem tX11_feed_4 {d : Nat} {l0 l1 l2 l3 l4 l5 : Option Value} {a : Nat} {m : jmM} {Q : Option Value → jmM → Prop} : AW d 141 4 [l0, l1, l2, l3, l4, l5] [.ref a] m Q ↔ (mS m a).1 = 9 ∧ CC d 131 [.ref a] m (jK d 141 7 [l0, l1, l2, l3, l4, l5] [] Q) := A_callV hB_X11_feed dX11_feed_4 hO_X11_feed fS_11_107 ⟨Nat.le_of_ble_eq_true rfl, Nat.le_of_ble_eq_true rfl⟩ rfl rfl rfl
theorem dX11_feed_7 : decode cX11_feed 7 = .ok (.bipush 20, 2) := by decide +kernel
theorem tX11_feed_7 {d : Nat} {l0 l1 l2 l3 l4 l5 : Option Value} {v0 : Value} {m : jmM} {Q : Option Value → jmM → Prop} : AW d 141 7 [l0, l1, l2, l3, l4, l5] [v0] m Q ↔ AW d 141 9 [l0, l1, l2, l3, l4, l5] [.int 20, v0] m Q := A_bipush hB_X11_feed dX11_feed_7 rfl
theorem dX11_feed_9 : decode cX11_feed 9 = .ok (.iadd, 1) := by decide +kernel
theorem tX11_feed_9 {d : Nat} {l0 l1 l2 l3 l4 l5 : Option Value} {x y : Int32} {m : jmM} {Q : Option Value → jmM → Prop} : AW d 141 9 [l0, l1, l2, l3, l4, l5] [.int y, .int x] m Q ↔ AW d 141 10 [l0, l1, l2, l3, l4, l5] [.int (x + y)] m Q := A_iadd hB_X11_feed dX11_feed_9
theorem dX11_feed_10 : decode cX11_feed 10 = .ok (.sipush 400, 3) := by decide +kernel
theorem tX11_feed_10 {d : Nat} {l0 l1 l2 l3 l4 l5 : Option Value} {v0 : Value} {m : jmM} {Q : Option Value → jmM → Prop} : AW d 141 10 [l0, l1, l2, l3, l4, l5] [v0] m Q ↔ AW d 141 13 [l0, l1, l2, l3, l4, l5] [.int 400, v0] m Q := A_sipush hB_X11_feed dX11_feed_10 rfl
theorem dX11_feed_13 : decode cX11_feed 13 = .ok (.if_icmp .le 5, 3) := by decide +kernel
theorem tX11_feed_13 {d : Nat} {l0 l1 l2 l3 l4 l5 : Option Value} {x y : Int32} {m : jmM} {Q : Option Value → jmM → Prop} : AW d 141 13 [l0, l1, l2, l3, l4, l5] [.int y, .int x] m Q ↔ if x ≤ y then AW d 141 18 [l0, l1, l2, l3, l4, l5] [] m Q else AW d 141 16 [l0, l1, l2, l3, l4, l5] [] m Q := A_icmp_le hB_X11_feed dX11_feed_13 (by decide)
theorem dX11_feed_16 : decode cX11_feed 16 = .ok (.iconst (-1), 1) := by decide +kernel
theorem tX11_feed_16 {d : Nat} {l0 l1 l2 l3 l4 l5 : Option Value} {m : jmM} {Q : Option Value → jmM → Prop} : AW d 141 16 [l0, l1, l2, l3, l4, l5] [] m Q ↔ AW d 141 17 [l0, l1, l2, l3, l4, l5] [.int (-1)] m Q := A_iconst hB_X11_feed dX11_feed_16 (by decide)
theorem dX11_feed_17 : decode cX11_feed 17 = .ok (.ireturn, 1) := by decide +kernel
theorem tX11_feed_17 {d : Nat} {l0 l1 l2 l3 l4 l5 : Option Value} {x : Int32} {m : jmM} {Q : Option Value → jmM → Prop} : AW d 141 17 [l0, l1, l2, l3, l4, l5] [.int x] m Q ↔ Q (some (.int x)) m := A_ireturn hB_X11_feed dX11_feed_17 hR_X11_feed
theorem dX11_feed_18 : decode cX11_feed 18 = .ok (.aload_n 0, 1) := by decide +kernel
theorem tX11_feed_18 {d : Nat} {l1 l2 l3 l4 l5 : Option Value} {x : Nat} {m : jmM} {Q : Option Value → jmM → Prop} : AW d 141 18 [some (.ref x), l1, l2, l3, l4, l5] [] m Q ↔ AW d 141 19 [some (.ref x), l1, l2, l3, l4, l5] [.ref x] m Q := A_aload_n hB_X11_feed dX11_feed_18 rfl
theorem dX11_feed_19 : decode cX11_feed 19 = .ok (.getfield 20, 3) := by decide +kernel
theorem tX11_feed_19 {d : Nat} {l0 l1 l2 l3 l4 l5 : Option Value} {a : Nat} {m : jmM} {Q : Option Value → jmM → Prop} : AW d 141 19 [l0, l1, l2, l3, l4, l5] [.ref a] m Q ↔ (mS m a).1 = 11 ∧ AW d 141 22 [l0, l1, l2, l3, l4, l5] [va_rf (mR m a 1)] m Q := A_getfield (f := fun m a => va_rf (mR m a 1)) hB_X11_feed dX11_feed_19 hO_X11_feed fF_11_20 rfl
theorem dX11_feed_22 : decode cX11_feed 22 = .ok (.iload_n 1, 1) := by decide +kernel
theorem tX11_feed_22 {d : Nat} {l0 l2 l3 l4 l5 : Option Value} {v0 : Value} {x : Int32} {m : jmM} {Q : Option Value → jmM → Prop} : AW d 141 22 [l0, some (.int x), l2, l3, l4, l5] [v0] m Q ↔ AW d 141 23 [l0, some (.int x), l2, l3, l4, l5] [.int x, v0] m Q := A_iload_n hB_X11_feed dX11_feed_22 rfl
theorem dX11_feed_23 : decode cX11_feed 23 = .ok (.invokevirtual 113, 3) := by decide +kernel
theorem tX11_feed_23 {d : Nat} {l0 l1 l2 l3 l4 l5 : Option Value} {y0 : Value} {a : Nat} {m : jmM} {Q : Option Value → jmM → Prop} : AW d 141 23 [l0, l1, l2, l3, l4, l5] [y0, .ref a] m Q ↔ (mS m a).1 = 9 ∧ CC d 132 [.ref a, y0] m (jK d 141 26 [l0, l1, l2, l3, l4, l5] [] Q) := A_callV hB_X11_feed dX11_feed_23 hO_X11_feed fS_11_113 ⟨Nat.le_of_ble_eq_true rfl, Nat.le_of_ble_eq_true rfl⟩ rfl rfl rfl
theorem dX11_feed_26 : decode cX11_feed 26 = .ok (.aload_n 0, 1) := by decide +kernel
theorem tX11_feed_26 {d : Nat} {l1 l2 l3 l4 l5 : Option Value} {x : Nat} {m : jmM} {Q : Option Value → jmM → Prop} : AW d 141 26 [some (.ref x), l1, l2, l3, l4, l5] [] m Q ↔ AW d 141 27 [some (.ref x), l1, l2, l3, l4, l5] [.ref x] m Q := A_aload_n hB_X11_feed dX11_feed_26 rfl
theorem dX11_feed_27 : decode cX11_feed 27 = .ok (.getfield 20, 3) := by decide +kernel
theorem tX11_feed_27 {d : Nat} {l0 l1 l2 l3 l4 l5 : Option Value} {a : Nat} {m : jmM} {Q : Option Value → jmM → Prop} : AW d 141 27 [l0, l1, l2, l3, l4, l5] [.ref a] m Q ↔ (mS m a).1 = 11 ∧ AW d 141 30 [l0, l1, l2, l3, l4, l5] [va_rf (mR m a 1)] m Q := A_getfield (f := fun m a => va_rf (mR m a 1)) hB_X11_feed dX11_feed_27 hO_X11_feed fF_11_20 rfl
theorem dX11_feed_30 : decode cX11_feed 30 = .ok (.iload_n 2, 1) := by decide +kernel
theorem tX11_feed_30 {d : Nat} {l0 l1 l3 l4 l5 : Option Value} {v0 : Value} {x : Int32} {m : jmM} {Q : Option Value → jmM → Prop} : AW d 141 30 [l0, l1, some (.int x), l3, l4, l5] [v0] m Q ↔ AW d 141 31 [l0, l1, some (.int x), l3, l4, l5] [.int x, v0] m Q := A_iload_n hB_X11_feed dX11_feed_30 rfl
theorem dX11_feed_31 : decode cX11_feed 31 = .ok (.invokevirtual 113, 3) := by decide +kernel
theorem tX11_feed_31 {d : Nat} {l0 l1 l2 l3 l4 l5 : Option Value} {y0 : Value} {a : Nat} {m : jmM} {Q : Option Value → jmM → Prop} : AW d 141 31 [l0, l1, l2, l3, l4, l5] [y0, .ref a] m Q ↔ (mS m a).1 = 9 ∧ CC d 132 [.ref a, y0] m (jK d 141 34 [l0, l1, l2, l3, l4, l5] [] Q) := A_callV hB_X11_feed dX11_feed_31 hO_X11_feed fS_11_113 ⟨Nat.le_of_ble_eq_true rfl, Nat.le_of_ble_eq_true rfl⟩ rfl rfl rfl
theorem dX11_feed_34 : decode cX11_feed 34 = .ok (.aload_n 0, 1) := by decide +kernel
theorem tX11_feed_34 {d : Nat} {l1 l2 l3 l4 l5 : Option Value} {x : Nat} {m : jmM} {Q : Option Value → jmM → Prop} : AW d 141 34 [some (.ref x), l1, l2, l3, l4, l5] [] m Q ↔ AW d 141 35 [some (.ref x), l1, l2, l3, l4, l5] [.ref x] m Q := A_aload_n hB_X11_feed dX11_feed_34 rfl
theorem dX11_feed_35 : decode cX11_feed 35 = .ok (.getfield 20, 3) := by decide +kernel
theorem tX11_feed_35 {d : Nat} {l0 l1 l2 l3 l4 l5 : Option Value} {a : Nat} {m : jmM} {Q : Option Value → jmM → Prop} : AW d 141 35 [l0, l1, l2, l3, l4, l5] [.ref a] m Q ↔ (mS m a).1 = 11 ∧ AW d 141 38 [l0, l1, l2, l3, l4, l5] [va_rf (mR m a 1)] m Q := A_getfield (f := fun m a => va_rf (mR m a 1)) hB_X11_feed dX11_feed_35 hO_X11_feed fF_11_20 rfl
theorem dX11_feed_38 : decode cX11_feed 38 = .ok (.iload_n 3, 1) := by decide +kernel
theorem tX11_feed_38 {d : Nat} {l0 l1 l2 l4 l5 : Option Value} {v0 : Value} {x : Int32} {m : jmM} {Q : Option Value → jmM → Prop} : AW d 141 38 [l0, l1, l2, some (.int x), l4, l5] [v0] m Q ↔ AW d 141 39 [l0, l1, l2, some (.int x), l4, l5] [.int x, v0] m Q := A_iload_n hB_X11_feed dX11_feed_38 rfl
theorem dX11_feed_39 : decode cX11_feed 39 = .ok (.invokevirtual 113, 3) := by decide +kernel
theorem tX11_feed_39 {d : Nat} {l0 l1 l2 l3 l4 l5 : Option Value} {y0 : Value} {a : Nat} {m : jmM} {Q : Option Value → jmM → Prop} : AW d 141 39 [l0, l1, l2, l3, l4, l5] [y0, .ref a] m Q ↔ (mS m a).1 = 9 ∧ CC d 132 [.ref a, y0] m (jK d 141 42 [l0, l1, l2, l3, l4, l5] [] Q) := A_callV hB_X11_feed dX11_feed_39 hO_X11_feed fS_11_113 ⟨Nat.le_of_ble_eq_true rfl, Nat.le_of_ble_eq_true rfl⟩ rfl rfl rfl
theorem dX11_feed_42 : decode cX11_feed 42 = .ok (.aload_n 0, 1) := by decide +kernel
theorem tX11_feed_42 {d : Nat} {l1 l2 l3 l4 l5 : Option Value} {x : Nat} {m : jmM} {Q : Option Value → jmM → Prop} : AW d 141 42 [some (.ref x), l1, l2, l3, l4, l5] [] m Q ↔ AW d 141 43 [some (.ref x), l1, l2, l3, l4, l5] [.ref x] m Q := A_aload_n hB_X11_feed dX11_feed_42 rfl
theorem dX11_feed_43 : decode cX11_feed 43 = .ok (.getfield 20, 3) := by decide +kernel
theorem tX11_feed_43 {d : Nat} {l0 l1 l2 l3 l4 l5 : Option Value} {a : Nat} {m : jmM} {Q : Option Value → jmM → Prop} : AW d 141 43 [l0, l1, l2, l3, l4, l5] [.ref a] m Q ↔ (mS m a).1 = 11 ∧ AW d 141 46 [l0, l1, l2, l3, l4, l5] [va_rf (mR m a 1)] m Q := A_getfield (f := fun m a => va_rf (mR m a 1)) hB_X11_feed dX11_feed_43 hO_X11_feed fF_11_20 rfl
theorem dX11_feed_46 : decode cX11_feed 46 = .ok (.iload 4, 2) := by decide +kernel
theorem tX11_feed_46 {d : Nat} {l0 l1 l2 l3 l5 : Option Value} {v0 : Value} {x : Int32} {m : jmM} {Q : Option Value → jmM → Prop} : AW d 141 46 [l0, l1, l2, l3, some (.int x), l5] [v0] m Q ↔ AW d 141 48 [l0, l1, l2, l3, some (.int x), l5] [.int x, v0] m Q := A_iload hB_X11_feed dX11_feed_46 rfl
theorem dX11_feed_48 : decode cX11_feed 48 = .ok (.invokevirtual 113, 3) := by decide +kernel
theorem tX11_feed_48 {d : Nat} {l0 l1 l2 l3 l4 l5 : Option Value} {y0 : Value} {a : Nat} {m : jmM} {Q : Option Value → jmM → Prop} : AW d 141 48 [l0, l1, l2, l3, l4, l5] [y0, .ref a] m Q ↔ (mS m a).1 = 9 ∧ CC d 132 [.ref a, y0] m (jK d 141 51 [l0, l1, l2, l3, l4, l5] [] Q) := A_callV hB_X11_feed dX11_feed_48 hO_X11_feed fS_11_113 ⟨Nat.le_of_ble_eq_true rfl, Nat.le_of_ble_eq_true rfl⟩ rfl rfl rfl
theorem dX11_feed_51 : decode cX11_feed 51 = .ok (.aload_n 0, 1) := by decide +kernel
theorem tX11_feed_51 {d : Nat} {l1 l2 l3 l4 l5 : Option Value} {x : Nat} {m : jmM} {Q : Option Value → jmM → Prop} : AW d 141 51 [some (.ref x), l1, l2, l3, l4, l5] [] m Q ↔ AW d 141 52 [some (.ref x), l1, l2, l3, l4, l5] [.ref x] m Q := A_aload_n hB_X11_feed dX11_feed_51 rfl
theorem dX11_feed_52 : decode cX11_feed 52 = .ok (.getfield 20, 3) := by decide +kernel
theorem tX11_feed_52 {d : Nat} {l0 l1 l2 l3 l4 l5 : Option Value} {a : Nat} {m : jmM} {Q : Option Value → jmM → Prop} : AW d 141 52 [l0, l1, l2, l3, l4, l5] [.ref a] m Q ↔ (mS m a).1 = 11 ∧ AW d 141 55 [l0, l1, l2, l3, l4, l5] [va_rf (mR m a 1)] m Q := A_getfield (f := fun m a => va_rf (mR m a 1)) hB_X11_feed dX11_feed_52 hO_X11_feed fF_11_20 rfl
theorem dX11_feed_55 : decode cX11_feed 55 = .ok (.iload 5, 2) := by decide +kernel
theorem tX11_feed_55 {d : Nat} {l0 l1 l2 l3 l4 : Option Value} {v0 : Value} {x : Int32} {m : jmM} {Q : Option Value → jmM → Prop} : AW d 141 55 [l0, l1, l2, l3, l4, some (.int x)] [v0] m Q ↔ AW d 141 57 [l0, l1, l2, l3, l4, some (.int x)] [.int x, v0] m Q := A_iload hB_X11_feed dX11_feed_55 rfl
theorem dX11_feed_57 : decode cX11_feed 57 = .ok (.invokevirtual 113, 3) := by decide +kernel
theorem tX11_feed_57 {d : Nat} {l0 l1 l2 l3 l4 l5 : Option Value} {y0 : Value} {a : Nat} {m : jmM} {Q : Option Value → jmM → Prop} : AW d 141 57 [l0, l1, l2, l3, l4, l5] [y0, .ref a] m Q ↔ (mS m a).1 = 9 ∧ CC d 132 [.ref a, y0] m (jK d 141 60 [l0, l1, l2, l3, l4, l5] [] Q) := A_callV hB_X11_feed dX11_feed_57 hO_X11_feed fS_11_113 ⟨Nat.le_of_ble_eq_true rfl, Nat.le_of_ble_eq_true rfl⟩ rfl rfl rfl
theorem dX11_feed_60 : decode cX11_feed 60 = .ok (.aload_n 0, 1) := by decide +kernel
theorem tX11_feed_60 {d : Nat} {l1 l2 l3 l4 l5 : Option Value} {x : Nat} {m : jmM} {Q : Option Value → jmM → Prop} : AW d 141 60 [some (.ref x), l1, l2, l3, l4, l5] [] m Q ↔ AW d 141 61 [some (.ref x), l1, l2, l3, l4, l5] [.ref x] m Q := A_aload_n hB_X11_feed dX11_feed_60 rfl
theorem dX11_feed_61 : decode cX11_feed 61 = .ok (.getfield 20, 3) := by decide +kernel
theorem tX11_feed_61 {d : Nat} {l0 l1 l2 l3 l4 l5 : Option Value} {a : Nat} {m : jmM} {Q : Option Value → jmM → Prop} : AW d 141 61 [l0, l1, l2, l3, l4, l5] [.ref a] m Q ↔ (mS m a).1 = 11 ∧ AW d 141 64 [l0, l1, l2, l3, l4, l5] [va_rf (mR m a 1)] m Q := A_getfield (f := fun m a => va_rf (mR m a 1)) hB_X11_feed dX11_feed_61 hO_X11_feed fF_11_20 rfl
theorem dX11_feed_64 : decode cX11_feed 64 = .ok (.invokevirtual 107, 3) := by decide +kernel
theorem tX11_feed_64 {d : Nat} {l0 l1 l2 l3 l4 l5 : Option Value} {a : Nat} {m : jmM} {Q : Option Value → jmM → Prop} : AW d 141 64 [l0, l1, l2, l3, l4, l5] [.ref a] m Q ↔ (mS m a).1 = 9 ∧ CC d 131 [.ref a] m (jK d 141 67 [l0, l1, l2, l3, l4, l5] [] Q) := A_callV hB_X11_feed dX11_feed_64 hO_X11_feed fS_11_107 ⟨Nat.le_of_ble_eq_true rfl, Nat.le_of_ble_eq_true rfl⟩ rfl rfl rfl
theorem dX11_feed_67 : decode cX11_feed 67 = .ok (.ireturn, 1) := by decide +kernel
theorem tX11_feed_67 {d : Nat} {l0 l1 l2 l3 l4 l5 : Option Value} {x : Int32} {m : jmM} {Q : Option Value → jmM → Prop} : AW d 141 67 [l0, l1, l2, l3, l4, l5] [.int x] m Q ↔ Q (some (.int x)) m := A_ireturn hB_X11_feed dX11_feed_67 hR_X11_feed
theorem hB_X11_end : jB 142 = cX11_end := rfl
theorem hO_X11_end : jO 142 = 11 := rfl
theorem hR_X11_end : jRt 142 = (some .int) := rfl
theorem nX11_end (d : Nat) (x0 : Nat) (x1 : Int32) (m : jmM) (Q : Option Value → jmM → Prop) : CC (d + 1) 142 [.ref x0, .int x1] m Q ↔ AW d 142 0 [some (.ref x0), some (.int x1)] [] m Q := CC_body (Nat.le_of_ble_eq_true rfl)
theorem dX11_end_0 : decode cX11_end 0 = .ok (.iload_n 1, 1) := by decide +kernel
theorem tX11_end_0 {d : Nat} {l0 : Option Value} {x : Int32} {m : jmM} {Q : Option Value → jmM → Prop} : AW d 142 0 [l0, some (.int x)] [] m Q ↔ AW d 142 1 [l0, some (.int x)] [.int x] m Q := A_iload_n hB_X11_end dX11_end_0 rfl
theorem dX11_end_1 : decode cX11_end 1 = .ok (.ifCond .lt 14, 3) := by decide +kernel
theorem tX11_end_1 {d : Nat} {l0 l1 : Option Value} {x : Int32} {m : jmM} {Q : Option Value → jmM → Prop} : AW d 142 1 [l0, l1] [.int x] m Q ↔ if x < 0 then AW d 142 15 [l0, l1] [] m Q else AW d 142 4 [l0, l1] [] m Q := A_if_lt hB_X11_end dX11_end_1 (by decide)
theorem dX11_end_4 : decode cX11_end 4 = .ok (.iload_n 1, 1) := by decide +kernel
theorem tX11_end_4 {d : Nat} {l0 : Option Value} {x : Int32} {m : jmM} {Q : Option Value → jmM → Prop} : AW d 142 4 [l0, some (.int x)] [] m Q ↔ AW d 142 5 [l0, some (.int x)] [.int x] m Q := A_iload_n hB_X11_end dX11_end_4 rfl
theorem dX11_end_5 : decode cX11_end 5 = .ok (.aload_n 0, 1) := by decide +kernel
theorem tX11_end_5 {d : Nat} {l1 : Option Value} {v0 : Value} {x : Nat} {m : jmM} {Q : Option Value → jmM → Prop} : AW d 142 5 [some (.ref x), l1] [v0] m Q ↔ AW d 142 6 [some (.ref x), l1] [.ref x, v0] m Q := A_aload_n hB_X11_end dX11_end_5 rfl
theorem dX11_end_6 : decode cX11_end 6 = .ok (.getfield 20, 3) := by decide +kernel
theorem tX11_end_6 {d : Nat} {l0 l1 : Option Value} {v1 : Value} {a : Nat} {m : jmM} {Q : Option Value → jmM → Prop} : AW d 142 6 [l0, l1] [.ref a, v1] m Q ↔ (mS m a).1 = 11 ∧ AW d 142 9 [l0, l1] [va_rf (mR m a 1), v1] m Q := A_getfield (f := fun m a => va_rf (mR m a 1)) hB_X11_end dX11_end_6 hO_X11_end fF_11_20 rfl
theorem dX11_end_9 : decode cX11_end 9 = .ok (.invokevirtual 107, 3) := by decide +kernel
theorem tX11_end_9 {d : Nat} {l0 l1 : Option Value} {v1 : Value} {a : Nat} {m : jmM} {Q : Option Value → jmM → Prop} : AW d 142 9 [l0, l1] [.ref a, v1] m Q ↔ (mS m a).1 = 9 ∧ CC d 131 [.ref a] m (jK d 142 12 [l0, l1] [v1] Q) := A_callV hB_X11_end dX11_end_9 hO_X11_end fS_11_107 ⟨Nat.le_of_ble_eq_true rfl, Nat.le_of_ble_eq_true rfl⟩ rfl rfl rfl
theorem dX11_end_12 : decode cX11_end 12 = .ok (.if_icmp .le 5, 3) := by decide +kernel
theorem tX11_end_12 {d : Nat} {l0 l1 : Option Value} {x y : Int32} {m : jmM} {Q : Option Value → jmM → Prop} : AW d 142 12 [l0, l1] [.int y, .int x] m Q ↔ if x ≤ y then AW d 142 17 [l0, l1] [] m Q else AW d 142 15 [l0, l1] [] m Q := A_icmp_le hB_X11_end dX11_end_12 (by decide)
theorem dX11_end_15 : decode cX11_end 15 = .ok (.iconst (-1), 1) := by decide +kernel
theorem tX11_end_15 {d : Nat} {l0 l1 : Option Value} {m : jmM} {Q : Option Value → jmM → Prop} : AW d 142 15 [l0, l1] [] m Q ↔ AW d 142 16 [l0, l1] [.int (-1)] m Q := A_iconst hB_X11_end dX11_end_15 (by decide)
theorem dX11_end_16 : decode cX11_end 16 = .ok (.ireturn, 1) := by decide +kernel
theorem tX11_end_16 {d : Nat} {l0 l1 : Option Value} {x : Int32} {m : jmM} {Q : Option Value → jmM → Prop} : AW d 142 16 [l0, l1] [.int x] m Q ↔ Q (some (.int x)) m := A_ireturn hB_X11_end dX11_end_16 hR_X11_end
theorem dX11_end_17 : decode cX11_end 17 = .ok (.aload_n 0, 1) := by decide +kernel
theorem tX11_end_17 {d : Nat} {l1 : Option Value} {x : Nat} {m : jmM} {Q : Option Value → jmM → Prop} : AW d 142 17 [some (.ref x), l1] [] m Q ↔ AW d 142 18 [some (.ref x), l1] [.ref x] m Q := A_aload_n hB_X11_end dX11_end_17 rfl
theorem dX11_end_18 : decode cX11_end 18 = .ok (.getfield 20, 3) := by decide +kernel
theorem tX11_end_18 {d : Nat} {l0 l1 : Option Value} {a : Nat} {m : jmM} {Q : Option Value → jmM → Prop} : AW d 142 18 [l0, l1] [.ref a] m Q ↔ (mS m a).1 = 11 ∧ AW d 142 21 [l0, l1] [va_rf (mR m a 1)] m Q := A_getfield (f := fun m a => va_rf (mR m a 1)) hB_X11_end dX11_end_18 hO_X11_end fF_11_20 rfl
theorem dX11_end_21 : decode cX11_end 21 = .ok (.iload_n 1, 1) := by decide +kernel
theorem tX11_end_21 {d : Nat} {l0 : Option Value} {v0 : Value} {x : Int32} {m : jmM} {Q : Option Value → jmM → Prop} : AW d 142 21 [l0, some (.int x)] [v0] m Q ↔ AW d 142 22 [l0, some (.int x)] [.int x, v0] m Q := A_iload_n hB_X11_end dX11_end_21 rfl
theorem dX11_end_22 : decode cX11_end 22 = .ok (.invokevirtual 116, 3) := by decide +kernel
theorem tX11_end_22 {d : Nat} {l0 l1 : Option Value} {y0 : Value} {a : Nat} {m : jmM} {Q : Option Value → jmM → Prop} : AW d 142 22 [l0, l1] [y0, .ref a] m Q ↔ (mS m a).1 = 9 ∧ CC d 133 [.ref a, y0] m (jK d 142 25 [l0, l1] [] Q) := A_callV hB_X11_end dX11_end_22 hO_X11_end fS_11_116 ⟨Nat.le_of_ble_eq_true rfl, Nat.le_of_ble_eq_true rfl⟩ rfl rfl rfl
theorem dX11_end_25 : decode cX11_end 25 = .ok (.iload_n 1, 1) := by decide +kernel
theorem tX11_end_25 {d : Nat} {l0 : Option Value} {x : Int32} {m : jmM} {Q : Option Value → jmM → Prop} : AW d 142 25 [l0, some (.int x)] [] m Q ↔ AW d 142 26 [l0, some (.int x)] [.int x] m Q := A_iload_n hB_X11_end dX11_end_25 rfl
theorem dX11_end_26 : decode cX11_end 26 = .ok (.ireturn, 1) := by decide +kernel
theorem tX11_end_26 {d : Nat} {l0 l1 : Option Value} {x : Int32} {m : jmM} {Q : Option Value → jmM → Prop} : AW d 142 26 [l0, l1] [.int x] m Q ↔ Q (some (.int x)) m := A_ireturn hB_X11_end dX11_end_26 hR_X11_end
theorem hB_X11_furnace : jB 143 = cX11_furnace := rfl
theorem hO_X11_furnace : jO 143 = 11 := rfl
theorem hR_X11_furnace : jRt 143 = (some .int) := rfl
theorem nX11_furnace (d : Nat) (x0 : Nat) (m : jmM) (Q : Option Value → jmM → Prop) : CC (d + 1) 143 [.ref x0] m Q ↔ AW d 143 0 [some (.ref x0)] [] m Q := CC_body (Nat.le_of_ble_eq_true rfl)
theorem dX11_furnace_0 : decode cX11_furnace 0 = .ok (.aload_n 0, 1) := by decide +kernel
theorem tX11_furnace_0 {d : Nat} {x : Nat} {m : jmM} {Q : Option Value → jmM → Prop} : AW d 143 0 [some (.ref x)] [] m Q ↔ AW d 143 1 [some (.ref x)] [.ref x] m Q := A_aload_n hB_X11_furnace dX11_furnace_0 rfl
theorem dX11_furnace_1 : decode cX11_furnace 1 = .ok (.getfield 10, 3) := by decide +kernel
theorem tX11_furnace_1 {d : Nat} {l0 : Option Value} {a : Nat} {m : jmM} {Q : Option Value → jmM → Prop} : AW d 143 1 [l0] [.ref a] m Q ↔ (mS m a).1 = 11 ∧ AW d 143 4 [l0] [va_rf (mR m a 0)] m Q := A_getfield (f := fun m a => va_rf (mR m a 0)) hB_X11_furnace dX11_furnace_1 hO_X11_furnace fF_11_10 rfl
theorem dX11_furnace_4 : decode cX11_furnace 4 = .ok (.aload_n 0, 1) := by decide +kernel
theorem tX11_furnace_4 {d : Nat} {v0 : Value} {x : Nat} {m : jmM} {Q : Option Value → jmM → Prop} : AW d 143 4 [some (.ref x)] [v0] m Q ↔ AW d 143 5 [some (.ref x)] [.ref x, v0] m Q := A_aload_n hB_X11_furnace dX11_furnace_4 rfl
theorem dX11_furnace_5 : decode cX11_furnace 5 = .ok (.getfield 28, 3) := by decide +kernel
theorem tX11_furnace_5 {d : Nat} {l0 : Option Value} {v1 : Value} {a : Nat} {m : jmM} {Q : Option Value → jmM → Prop} : AW d 143 5 [l0] [.ref a, v1] m Q ↔ (mS m a).1 = 11 ∧ AW d 143 8 [l0] [va_rf (mR m a 2), v1] m Q := A_getfield (f := fun m a => va_rf (mR m a 2)) hB_X11_furnace dX11_furnace_5 hO_X11_furnace fF_11_28 rfl
theorem dX11_furnace_8 : decode cX11_furnace 8 = .ok (.iconst 1, 1) := by decide +kernel
theorem tX11_furnace_8 {d : Nat} {l0 : Option Value} {v0 v1 : Value} {m : jmM} {Q : Option Value → jmM → Prop} : AW d 143 8 [l0] [v0, v1] m Q ↔ AW d 143 9 [l0] [.int 1, v0, v1] m Q := A_iconst hB_X11_furnace dX11_furnace_8 (by decide)
theorem dX11_furnace_9 : decode cX11_furnace 9 = .ok (.invokevirtual 119, 3) := by decide +kernel
theorem tX11_furnace_9 {d : Nat} {l0 : Option Value} {y0 y1 : Value} {a : Nat} {m : jmM} {Q : Option Value → jmM → Prop} : AW d 143 9 [l0] [y0, y1, .ref a] m Q ↔ (mS m a).1 = 6 ∧ CC d 90 [.ref a, y1, y0] m (jK d 143 12 [l0] [] Q) := A_callV hB_X11_furnace dX11_furnace_9 hO_X11_furnace fS_11_119 ⟨Nat.le_of_ble_eq_true rfl, Nat.le_of_ble_eq_true rfl⟩ rfl rfl rfl
theorem dX11_furnace_12 : decode cX11_furnace 12 = .ok (.ireturn, 1) := by decide +kernel
theorem tX11_furnace_12 {d : Nat} {l0 : Option Value} {x : Int32} {m : jmM} {Q : Option Value → jmM → Prop} : AW d 143 12 [l0] [.int x] m Q ↔ Q (some (.int x)) m := A_ireturn hB_X11_furnace dX11_furnace_12 hR_X11_furnace
theorem hB_X11_minder : jB 144 = cX11_minder := rfl
theorem hO_X11_minder : jO 144 = 11 := rfl
theorem hR_X11_minder : jRt 144 = (some .int) := rfl
theorem nX11_minder (d : Nat) (x0 : Nat) (m : jmM) (Q : Option Value → jmM → Prop) : CC (d + 1) 144 [.ref x0] m Q ↔ AW d 144 0 [some (.ref x0)] [] m Q := CC_body (Nat.le_of_ble_eq_true rfl)
theorem dX11_minder_0 : decode cX11_minder 0 = .ok (.aload_n 0, 1) := by decide +kernel
theorem tX11_minder_0 {d : Nat} {x : Nat} {m : jmM} {Q : Option Value → jmM → Prop} : AW d 144 0 [some (.ref x)] [] m Q ↔ AW d 144 1 [some (.ref x)] [.ref x] m Q := A_aload_n hB_X11_minder dX11_minder_0 rfl
theorem dX11_minder_1 : decode cX11_minder 1 = .ok (.getfield 10, 3) := by decide +kernel
theorem tX11_minder_1 {d : Nat} {l0 : Option Value} {a : Nat} {m : jmM} {Q : Option Value → jmM → Prop} : AW d 144 1 [l0] [.ref a] m Q ↔ (mS m a).1 = 11 ∧ AW d 144 4 [l0] [va_rf (mR m a 0)] m Q := A_getfield (f := fun m a => va_rf (mR m a 0)) hB_X11_minder dX11_minder_1 hO_X11_minder fF_11_10 rfl
theorem dX11_minder_4 : decode cX11_minder 4 = .ok (.aload_n 0, 1) := by decide +kernel
theorem tX11_minder_4 {d : Nat} {v0 : Value} {x : Nat} {m : jmM} {Q : Option Value → jmM → Prop} : AW d 144 4 [some (.ref x)] [v0] m Q ↔ AW d 144 5 [some (.ref x)] [.ref x, v0] m Q := A_aload_n hB_X11_minder dX11_minder_4 rfl
theorem dX11_minder_5 : decode cX11_minder 5 = .ok (.getfield 32, 3) := by decide +kernel
theorem tX11_minder_5 {d : Nat} {l0 : Option Value} {v1 : Value} {a : Nat} {m : jmM} {Q : Option Value → jmM → Prop} : AW d 144 5 [l0] [.ref a, v1] m Q ↔ (mS m a).1 = 11 ∧ AW d 144 8 [l0] [va_rf (mR m a 3), v1] m Q := A_getfield (f := fun m a => va_rf (mR m a 3)) hB_X11_minder dX11_minder_5 hO_X11_minder fF_11_32 rfl
theorem dX11_minder_8 : decode cX11_minder 8 = .ok (.iconst 0, 1) := by decide +kernel
theorem tX11_minder_8 {d : Nat} {l0 : Option Value} {v0 v1 : Value} {m : jmM} {Q : Option Value → jmM → Prop} : AW d 144 8 [l0] [v0, v1] m Q ↔ AW d 144 9 [l0] [.int 0, v0, v1] m Q := A_iconst hB_X11_minder dX11_minder_8 (by decide)
theorem dX11_minder_9 : decode cX11_minder 9 = .ok (.invokevirtual 119, 3) := by decide +kernel
theorem tX11_minder_9 {d : Nat} {l0 : Option Value} {y0 y1 : Value} {a : Nat} {m : jmM} {Q : Option Value → jmM → Prop} : AW d 144 9 [l0] [y0, y1, .ref a] m Q ↔ (mS m a).1 = 6 ∧ CC d 90 [.ref a, y1, y0] m (jK d 144 12 [l0] [] Q) := A_callV hB_X11_minder dX11_minder_9 hO_X11_minder fS_11_119 ⟨Nat.le_of_ble_eq_true rfl, Nat.le_of_ble_eq_true rfl⟩ rfl rfl rfl
theorem dX11_minder_12 : decode cX11_minder 12 = .ok (.ireturn, 1) := by decide +kernel
theorem tX11_minder_12 {d : Nat} {l0 : Option Value} {x : Int32} {m : jmM} {Q : Option Value → jmM → Prop} : AW d 144 12 [l0] [.int x] m Q ↔ Q (some (.int x)) m := A_ireturn hB_X11_minder dX11_minder_12 hR_X11_minder
theorem hB_X11_stuff : jB 145 = cX11_stuff := rfl
theorem hO_X11_stuff : jO 145 = 11 := rfl
theorem hR_X11_stuff : jRt 145 = (some .int) := rfl
theorem nX11_stuff (d : Nat) (x0 : Nat) (x1 : Int32) (x2 : Int32) (x3 : Int32) (m : jmM) (Q : Option Value → jmM → Prop) : CC (d + 1) 145 [.ref x0, .int x1, .int x2, .int x3] m Q ↔ AW d 145 0 [some (.ref x0), some (.int x1), some (.int x2), some (.int x3)] [] m Q := CC_body (Nat.le_of_ble_eq_true rfl)
theorem dX11_stuff_0 : decode cX11_stuff 0 = .ok (.iload_n 1, 1) := by decide +kernel
theorem tX11_stuff_0 {d : Nat} {l0 l2 l3 : Option Value} {x : Int32} {m : jmM} {Q : Option Value → jmM → Prop} : AW d 145 0 [l0, some (.int x), l2, l3] [] m Q ↔ AW d 145 1 [l0, some (.int x), l2, l3] [.int x] m Q := A_iload_n hB_X11_stuff dX11_stuff_0 rfl
theorem dX11_stuff_1 : decode cX11_stuff 1 = .ok (.invokestatic 123, 3) := by decide +kernel
theorem tX11_stuff_1 {d : Nat} {l0 l1 l2 l3 : Option Value} {y0 : Value} {m : jmM} {Q : Option Value → jmM → Prop} : AW d 145 1 [l0, l1, l2, l3] [y0] m Q ↔ CC d 182 [y0] m (jK d 145 4 [l0, l1, l2, l3] [] Q) := A_callS0 hB_X11_stuff dX11_stuff_1 hO_X11_stuff fS_11_123 ⟨Nat.le_of_ble_eq_true rfl, Nat.le_of_ble_eq_true rfl⟩ rfl rfl
theorem dX11_stuff_4 : decode cX11_stuff 4 = .ok (.ifCond .ne 5, 3) := by decide +kernel
theorem tX11_stuff_4 {d : Nat} {l0 l1 l2 l3 : Option Value} {x : Int32} {m : jmM} {Q : Option Value → jmM → Prop} : AW d 145 4 [l0, l1, l2, l3] [.int x] m Q ↔ if x = 0 then AW d 145 7 [l0, l1, l2, l3] [] m Q else AW d 145 9 [l0, l1, l2, l3] [] m Q := A_if_ne hB_X11_stuff dX11_stuff_4 (by decide)
theorem dX11_stuff_7 : decode cX11_stuff 7 = .ok (.iconst (-1), 1) := by decide +kernel
theorem tX11_stuff_7 {d : Nat} {l0 l1 l2 l3 : Option Value} {m : jmM} {Q : Option Value → jmM → Prop} : AW d 145 7 [l0, l1, l2, l3] [] m Q ↔ AW d 145 8 [l0, l1, l2, l3] [.int (-1)] m Q := A_iconst hB_X11_stuff dX11_stuff_7 (by decide)
theorem dX11_stuff_8 : decode cX11_stuff 8 = .ok (.ireturn, 1) := by decide +kernel
theorem tX11_stuff_8 {d : Nat} {l0 l1 l2 l3 : Option Value} {x : Int32} {m : jmM} {Q : Option Value → jmM → Prop} : AW d 145 8 [l0, l1, l2, l3] [.int x] m Q ↔ Q (some (.int x)) m := A_ireturn hB_X11_stuff dX11_stuff_8 hR_X11_stuff
theorem dX11_stuff_9 : decode cX11_stuff 9 = .ok (.iload_n 2, 1) := by decide +kernel
theorem tX11_stuff_9 {d : Nat} {l0 l1 l3 : Option Value} {x : Int32} {m : jmM} {Q : Option Value → jmM → Prop} : AW d 145 9 [l0, l1, some (.int x), l3] [] m Q ↔ AW d 145 10 [l0, l1, some (.int x), l3] [.int x] m Q := A_iload_n hB_X11_stuff dX11_stuff_9 rfl
theorem dX11_stuff_10 : decode cX11_stuff 10 = .ok (.ifCond .ne 23, 3) := by decide +kernel
theorem tX11_stuff_10 {d : Nat} {l0 l1 l2 l3 : Option Value} {x : Int32} {m : jmM} {Q : Option Value → jmM → Prop} : AW d 145 10 [l0, l1, l2, l3] [.int x] m Q ↔ if x = 0 then AW d 145 13 [l0, l1, l2, l3] [] m Q else AW d 145 33 [l0, l1, l2, l3] [] m Q := A_if_ne hB_X11_stuff dX11_stuff_10 (by decide)
theorem dX11_stuff_13 : decode cX11_stuff 13 = .ok (.iload_n 3, 1) := by decide +kernel
theorem tX11_stuff_13 {d : Nat} {l0 l1 l2 : Option Value} {x : Int32} {m : jmM} {Q : Option Value → jmM → Prop} : AW d 145 13 [l0, l1, l2, some (.int x)] [] m Q ↔ AW d 145 14 [l0, l1, l2, some (.int x)] [.int x] m Q := A_iload_n hB_X11_stuff dX11_stuff_13 rfl
theorem dX11_stuff_14 : decode cX11_stuff 14 = .ok (.iconst 0, 1) := by decide +kernel
theorem tX11_stuff_14 {d : Nat} {l0 l1 l2 l3 : Option Value} {v0 : Value} {m : jmM} {Q : Option Value → jmM → Prop} : AW d 145 14 [l0, l1, l2, l3] [v0] m Q ↔ AW d 145 15 [l0, l1, l2, l3] [.int 0, v0] m Q := A_iconst hB_X11_stuff dX11_stuff_14 (by decide)
theorem dX11_stuff_15 : decode cX11_stuff 15 = .ok (.ldc 127, 2) := by decide +kernel
theorem tX11_stuff_15 {d : Nat} {l0 l1 l2 l3 : Option Value} {v0 v1 : Value} {m : jmM} {Q : Option Value → jmM → Prop} : AW d 145 15 [l0, l1, l2, l3] [v0, v1] m Q ↔ AW d 145 17 [l0, l1, l2, l3] [.int 999999999, v0, v1] m Q := A_ldc hB_X11_stuff dX11_stuff_15 hO_X11_stuff fL_11_127
theorem dX11_stuff_17 : decode cX11_stuff 17 = .ok (.invokestatic 128, 3) := by decide +kernel
theorem tX11_stuff_17 {d : Nat} {l0 l1 l2 l3 : Option Value} {y0 y1 y2 : Value} {m : jmM} {Q : Option Value → jmM → Prop} : AW d 145 17 [l0, l1, l2, l3] [y0, y1, y2] m Q ↔ CC d 183 [y2, y1, y0] m (jK d 145 20 [l0, l1, l2, l3] [] Q) := A_callS0 hB_X11_stuff dX11_stuff_17 hO_X11_stuff fS_11_128 ⟨Nat.le_of_ble_eq_true rfl, Nat.le_of_ble_eq_true rfl⟩ rfl rfl
theorem dX11_stuff_20 : decode cX11_stuff 20 = .ok (.ifCond .eq 13, 3) := by decide +kernel
theorem tX11_stuff_20 {d : Nat} {l0 l1 l2 l3 : Option Value} {x : Int32} {m : jmM} {Q : Option Value → jmM → Prop} : AW d 145 20 [l0, l1, l2, l3] [.int x] m Q ↔ if x = 0 then AW d 145 33 [l0, l1, l2, l3] [] m Q else AW d 145 23 [l0, l1, l2, l3] [] m Q := A_if_eq hB_X11_stuff dX11_stuff_20 (by decide)
theorem dX11_stuff_23 : decode cX11_stuff 23 = .ok (.aload_n 0, 1) := by decide +kernel
theorem tX11_stuff_23 {d : Nat} {l1 l2 l3 : Option Value} {x : Nat} {m : jmM} {Q : Option Value → jmM → Prop} : AW d 145 23 [some (.ref x), l1, l2, l3] [] m Q ↔ AW d 145 24 [some (.ref x), l1, l2, l3] [.ref x] m Q := A_aload_n hB_X11_stuff dX11_stuff_23 rfl
theorem dX11_stuff_24 : decode cX11_stuff 24 = .ok (.getfield 42, 3) := by decide +kernel
theorem tX11_stuff_24 {d : Nat} {l0 l1 l2 l3 : Option Value} {a : Nat} {m : jmM} {Q : Option Value → jmM → Prop} : AW d 145 24 [l0, l1, l2, l3] [.ref a] m Q ↔ (mS m a).1 = 11 ∧ AW d 145 27 [l0, l1, l2, l3] [va_rf (mR m a 5)] m Q := A_getfield (f := fun m a => va_rf (mR m a 5)) hB_X11_stuff dX11_stuff_24 hO_X11_stuff fF_11_42 rfl
theorem dX11_stuff_27 : decode cX11_stuff 27 = .ok (.iload_n 1, 1) := by decide +kernel
theorem tX11_stuff_27 {d : Nat} {l0 l2 l3 : Option Value} {v0 : Value} {x : Int32} {m : jmM} {Q : Option Value → jmM → Prop} : AW d 145 27 [l0, some (.int x), l2, l3] [v0] m Q ↔ AW d 145 28 [l0, some (.int x), l2, l3] [.int x, v0] m Q := A_iload_n hB_X11_stuff dX11_stuff_27 rfl
theorem dX11_stuff_28 : decode cX11_stuff 28 = .ok (.iload_n 3, 1) := by decide +kernel
theorem tX11_stuff_28 {d : Nat} {l0 l1 l2 : Option Value} {v0 v1 : Value} {x : Int32} {m : jmM} {Q : Option Value → jmM → Prop} : AW d 145 28 [l0, l1, l2, some (.int x)] [v0, v1] m Q ↔ AW d 145 29 [l0, l1, l2, some (.int x)] [.int x, v0, v1] m Q := A_iload_n hB_X11_stuff dX11_stuff_28 rfl
theorem dX11_stuff_29 : decode cX11_stuff 29 = .ok (.invokestatic 132, 3) := by decide +kernel
theorem tX11_stuff_29 {d : Nat} {l0 l1 l2 l3 : Option Value} {y0 y1 y2 : Value} {m : jmM} {Q : Option Value → jmM → Prop} : AW d 145 29 [l0, l1, l2, l3] [y0, y1, y2] m Q ↔ CC d 181 [y2, y1, y0] m (jK d 145 32 [l0, l1, l2, l3] [] Q) := A_callS0 hB_X11_stuff dX11_stuff_29 hO_X11_stuff fS_11_132 ⟨Nat.le_of_ble_eq_true rfl, Nat.le_of_ble_eq_true rfl⟩ rfl rfl
theorem dX11_stuff_32 : decode cX11_stuff 32 = .ok (.ireturn, 1) := by decide +kernel
theorem tX11_stuff_32 {d : Nat} {l0 l1 l2 l3 : Option Value} {x : Int32} {m : jmM} {Q : Option Value → jmM → Prop} : AW d 145 32 [l0, l1, l2, l3] [.int x] m Q ↔ Q (some (.int x)) m := A_ireturn hB_X11_stuff dX11_stuff_32 hR_X11_stuff
theorem dX11_stuff_33 : decode cX11_stuff 33 = .ok (.iload_n 2, 1) := by decide +kernel
theorem tX11_stuff_33 {d : Nat} {l0 l1 l3 : Option Value} {x : Int32} {m : jmM} {Q : Option Value → jmM → Prop} : AW d 145 33 [l0, l1, some (.int x), l3] [] m Q ↔ AW d 145 34 [l0, l1, some (.int x), l3] [.int x] m Q := A_iload_n hB_X11_stuff dX11_stuff_33 rfl
theorem dX11_stuff_34 : decode cX11_stuff 34 = .ok (.iconst 1, 1) := by decide +kernel
theorem tX11_stuff_34 {d : Nat} {l0 l1 l2 l3 : Option Value} {v0 : Value} {m : jmM} {Q : Option Value → jmM → Prop} : AW d 145 34 [l0, l1, l2, l3] [v0] m Q ↔ AW d 145 35 [l0, l1, l2, l3] [.int 1, v0] m Q := A_iconst hB_X11_stuff dX11_stuff_34 (by decide)
theorem dX11_stuff_35 : decode cX11_stuff 35 = .ok (.if_icmp .ne 24, 3) := by decide +kernel
theorem tX11_stuff_35 {d : Nat} {l0 l1 l2 l3 : Option Value} {x y : Int32} {m : jmM} {Q : Option Value → jmM → Prop} : AW d 145 35 [l0, l1, l2, l3] [.int y, .int x] m Q ↔ if x = y then AW d 145 38 [l0, l1, l2, l3] [] m Q else AW d 145 59 [l0, l1, l2, l3] [] m Q := A_icmp_ne hB_X11_stuff dX11_stuff_35 (by decide)
theorem dX11_stuff_38 : decode cX11_stuff 38 = .ok (.iload_n 3, 1) := by decide +kernel
theorem tX11_stuff_38 {d : Nat} {l0 l1 l2 : Option Value} {x : Int32} {m : jmM} {Q : Option Value → jmM → Prop} : AW d 145 38 [l0, l1, l2, some (.int x)] [] m Q ↔ AW d 145 39 [l0, l1, l2, some (.int x)] [.int x] m Q := A_iload_n hB_X11_stuff dX11_stuff_38 rfl
theorem dX11_stuff_39 : decode cX11_stuff 39 = .ok (.iconst 0, 1) := by decide +kernel
theorem tX11_stuff_39 {d : Nat} {l0 l1 l2 l3 : Option Value} {v0 : Value} {m : jmM} {Q : Option Value → jmM → Prop} : AW d 145 39 [l0, l1, l2, l3] [v0] m Q ↔ AW d 145 40 [l0, l1, l2, l3] [.int 0, v0] m Q := A_iconst hB_X11_stuff dX11_stuff_39 (by decide)
theorem dX11_stuff_40 : decode cX11_stuff 40 = .ok (.sipush 2000, 3) := by decide +kernel
theorem tX11_stuff_40 {d : Nat} {l0 l1 l2 l3 : Option Value} {v0 v1 : Value} {m : jmM} {Q : Option Value → jmM → Prop} : AW d 145 40 [l0, l1, l2, l3] [v0, v1] m Q ↔ AW d 145 43 [l0, l1, l2, l3] [.int 2000, v0, v1] m Q := A_sipush hB_X11_stuff dX11_stuff_40 rfl
theorem dX11_stuff_43 : decode cX11_stuff 43 = .ok (.invokestatic 128, 3) := by decide +kernel
theorem tX11_stuff_43 {d : Nat} {l0 l1 l2 l3 : Option Value} {y0 y1 y2 : Value} {m : jmM} {Q : Option Value → jmM → Prop} : AW d 145 43 [l0, l1, l2, l3] [y0, y1, y2] m Q ↔ CC d 183 [y2, y1, y0] m (jK d 145 46 [l0, l1, l2, l3] [] Q) := A_callS0 hB_X11_stuff dX11_stuff_43 hO_X11_stuff fS_11_128 ⟨Nat.le_of_ble_eq_true rfl, Nat.le_of_ble_eq_true rfl⟩ rfl rfl
theorem dX11_stuff_46 : decode cX11_stuff 46 = .ok (.ifCond .eq 13, 3) := by decide +kernel
theorem tX11_stuff_46 {d : Nat} {l0 l1 l2 l3 : Option Value} {x : Int32} {m : jmM} {Q : Option Value → jmM → Prop} : AW d 145 46 [l0, l1, l2, l3] [.int x] m Q ↔ if x = 0 then AW d 145 59 [l0, l1, l2, l3] [] m Q else AW d 145 49 [l0, l1, l2, l3] [] m Q := A_if_eq hB_X11_stuff dX11_stuff_46 (by decide)
theorem dX11_stuff_49 : decode cX11_stuff 49 = .ok (.aload_n 0, 1) := by decide +kernel
theorem tX11_stuff_49 {d : Nat} {l1 l2 l3 : Option Value} {x : Nat} {m : jmM} {Q : Option Value → jmM → Prop} : AW d 145 49 [some (.ref x), l1, l2, l3] [] m Q ↔ AW d 145 50 [some (.ref x), l1, l2, l3] [.ref x] m Q := A_aload_n hB_X11_stuff dX11_stuff_49 rfl
theorem dX11_stuff_50 : decode cX11_stuff 50 = .ok (.getfield 46, 3) := by decide +kernel
theorem tX11_stuff_50 {d : Nat} {l0 l1 l2 l3 : Option Value} {a : Nat} {m : jmM} {Q : Option Value → jmM → Prop} : AW d 145 50 [l0, l1, l2, l3] [.ref a] m Q ↔ (mS m a).1 = 11 ∧ AW d 145 53 [l0, l1, l2, l3] [va_rf (mR m a 6)] m Q := A_getfield (f := fun m a => va_rf (mR m a 6)) hB_X11_stuff dX11_stuff_50 hO_X11_stuff fF_11_46 rfl
theorem dX11_stuff_53 : decode cX11_stuff 53 = .ok (.iload_n 1, 1) := by decide +kernel
theorem tX11_stuff_53 {d : Nat} {l0 l2 l3 : Option Value} {v0 : Value} {x : Int32} {m : jmM} {Q : Option Value → jmM → Prop} : AW d 145 53 [l0, some (.int x), l2, l3] [v0] m Q ↔ AW d 145 54 [l0, some (.int x), l2, l3] [.int x, v0] m Q := A_iload_n hB_X11_stuff dX11_stuff_53 rfl
theorem dX11_stuff_54 : decode cX11_stuff 54 = .ok (.iload_n 3, 1) := by decide +kernel
theorem tX11_stuff_54 {d : Nat} {l0 l1 l2 : Option Value} {v0 v1 : Value} {x : Int32} {m : jmM} {Q : Option Value → jmM → Prop} : AW d 145 54 [l0, l1, l2, some (.int x)] [v0, v1] m Q ↔ AW d 145 55 [l0, l1, l2, some (.int x)] [.int x, v0, v1] m Q := A_iload_n hB_X11_stuff dX11_stuff_54 rfl
theorem dX11_stuff_55 : decode cX11_stuff 55 = .ok (.invokestatic 132, 3) := by decide +kernel
theorem tX11_stuff_55 {d : Nat} {l0 l1 l2 l3 : Option Value} {y0 y1 y2 : Value} {m : jmM} {Q : Option Value → jmM → Prop} : AW d 145 55 [l0, l1, l2, l3] [y0, y1, y2] m Q ↔ CC d 181 [y2, y1, y0] m (jK d 145 58 [l0, l1, l2, l3] [] Q) := A_callS0 hB_X11_stuff dX11_stuff_55 hO_X11_stuff fS_11_132 ⟨Nat.le_of_ble_eq_true rfl, Nat.le_of_ble_eq_true rfl⟩ rfl rfl
theorem dX11_stuff_58 : decode cX11_stuff 58 = .ok (.ireturn, 1) := by decide +kernel
theorem tX11_stuff_58 {d : Nat} {l0 l1 l2 l3 : Option Value} {x : Int32} {m : jmM} {Q : Option Value → jmM → Prop} : AW d 145 58 [l0, l1, l2, l3] [.int x] m Q ↔ Q (some (.int x)) m := A_ireturn hB_X11_stuff dX11_stuff_58 hR_X11_stuff
theorem dX11_stuff_59 : decode cX11_stuff 59 = .ok (.iconst (-1), 1) := by decide +kernel
theorem tX11_stuff_59 {d : Nat} {l0 l1 l2 l3 : Option Value} {m : jmM} {Q : Option Value → jmM → Prop} : AW d 145 59 [l0, l1, l2, l3] [] m Q ↔ AW d 145 60 [l0, l1, l2, l3] [.int (-1)] m Q := A_iconst hB_X11_stuff dX11_stuff_59 (by decide)
theorem dX11_stuff_60 : decode cX11_stuff 60 = .ok (.ireturn, 1) := by decide +kernel
theorem tX11_stuff_60 {d : Nat} {l0 l1 l2 l3 : Option Value} {x : Int32} {m : jmM} {Q : Option Value → jmM → Prop} : AW d 145 60 [l0, l1, l2, l3] [.int x] m Q ↔ Q (some (.int x)) m := A_ireturn hB_X11_stuff dX11_stuff_60 hR_X11_stuff
theorem hB_X11_begin : jB 146 = cX11_begin := rfl
theorem hO_X11_begin : jO 146 = 11 := rfl
theorem hR_X11_begin : jRt 146 = (some .boolean) := rfl
theorem nX11_begin (d : Nat) (x0 : Nat) (x1 : Int32) (x2 : Int32) (x3 : Int32) (x4 : Int32) (x5 : Int32) (x6 : Int32) (x7 : Int32) (x8 : Int32) (x9 : Int32) (m : jmM) (Q : Option Value → jmM → Prop) : CC (d + 1) 146 [.ref x0, .int x1, .int x2, .int x3, .int x4, .int x5, .int x6, .int x7, .int x8, .int x9] m Q ↔ AW d 146 0 [some (.ref x0), some (.int x1), some (.int x2), some (.int x3), some (.int x4), some (.int x5), some (.int x6), some (.int x7), some (.int x8), some (.int x9), none, none, none] [] m Q := CC_body (Nat.le_of_ble_eq_true rfl)
theorem dX11_begin_0 : decode cX11_begin 0 = .ok (.aload_n 0, 1) := by decide +kernel
theorem tX11_begin_0 {d : Nat} {l1 l2 l3 l4 l5 l6 l7 l8 l9 l10 l11 l12 : Option Value} {x : Nat} {m : jmM} {Q : Option Value → jmM → Prop} : AW d 146 0 [some (.ref x), l1, l2, l3, l4, l5, l6, l7, l8, l9, l10, l11, l12] [] m Q ↔ AW d 146 1 [some (.ref x), l1, l2, l3, l4, l5, l6, l7, l8, l9, l10, l11, l12] [.ref x] m Q := A_aload_n hB_X11_begin dX11_begin_0 rfl
theorem dX11_begin_1 : decode cX11_begin 1 = .ok (.getfield 28, 3) := by decide +kernel
theorem tX11_begin_1 {d : Nat} {l0 l1 l2 l3 l4 l5 l6 l7 l8 l9 l10 l11 l12 : Option Value} {a : Nat} {m : jmM} {Q : Option Value → jmM → Prop} : AW d 146 1 [l0, l1, l2, l3, l4, l5, l6, l7, l8, l9, l10, l11, l12] [.ref a] m Q ↔ (mS m a).1 = 11 ∧ AW d 146 4 [l0, l1, l2, l3, l4, l5, l6, l7, l8, l9, l10, l11, l12] [va_rf (mR m a 2)] m Q := A_getfield (f := fun m a => va_rf (mR m a 2)) hB_X11_begin dX11_begin_1 hO_X11_begin fF_11_28 rfl
theorem dX11_begin_4 : decode cX11_begin 4 = .ok (.iload_n 1, 1) := by decide +kernel
theorem tX11_begin_4 {d : Nat} {l0 l2 l3 l4 l5 l6 l7 l8 l9 l10 l11 l12 : Option Value} {v0 : Value} {x : Int32} {m : jmM} {Q : Option Value → jmM → Prop} : AW d 146 4 [l0, some (.int x), l2, l3, l4, l5, l6, l7, l8, l9, l10, l11, l12] [v0] m Q ↔ AW d 146 5 [l0, some (.int x), l2, l3, l4, l5, l6, l7, l8, l9, l10, l11, l12] [.int x, v0] m Q := A_iload_n hB_X11_begin dX11_begin_4 rfl
theorem dX11_begin_5 : decode cX11_begin 5 = .ok (.invokevirtual 136, 3) := by decide +kernel
theorem tX11_begin_5 {d : Nat} {l0 l1 l2 l3 l4 l5 l6 l7 l8 l9 l10 l11 l12 : Option Value} {y0 : Value} {a : Nat} {m : jmM} {Q : Option Value → jmM → Prop} : AW d 146 5 [l0, l1, l2, l3, l4, l5, l6, l7, l8, l9, l10, l11, l12] [y0, .ref a] m Q ↔ (mS m a).1 = 4 ∧ CC d 45 [.ref a, y0] m (jK d 146 8 [l0, l1, l2, l3, l4, l5, l6, l7, l8, l9, l10, l11, l12] [] Q) := A_callV hB_X11_begin dX11_begin_5 hO_X11_begin fS_11_136 ⟨Nat.le_of_ble_eq_true rfl, Nat.le_of_ble_eq_true rfl⟩ rfl rfl rfl
theorem dX11_begin_8 : decode cX11_begin 8 = .ok (.astore 10, 2) := by decide +kernel
theorem tX11_begin_8 {d : Nat} {l0 l1 l2 l3 l4 l5 l6 l7 l8 l9 l10 l11 l12 : Option Value} {x : Nat} {m : jmM} {Q : Option Value → jmM → Prop} : AW d 146 8 [l0, l1, l2, l3, l4, l5, l6, l7, l8, l9, l10, l11, l12] [.ref x] m Q ↔ AW d 146 10 [l0, l1, l2, l3, l4, l5, l6, l7, l8, jc1 l9, some (.ref x), l11, l12] [] m Q := A_astore hB_X11_begin dX11_begin_8 (Nat.le_of_ble_eq_true rfl) rfl
theorem tX11_begin_8q {d : Nat} {l0 l1 l2 l3 l4 l5 l6 l7 l8 l9 l10 l11 l12 : Option Value} {x : Option Nat} {m : jmM} {Q : Option Value → jmM → Prop} : AW d 146 8 [l0, l1, l2, l3, l4, l5, l6, l7, l8, l9, l10, l11, l12] [va_rf x] m Q ↔ AW d 146 10 [l0, l1, l2, l3, l4, l5, l6, l7, l8, jc1 l9, some (va_rf x), l11, l12] [] m Q := A_astoreq hB_X11_begin dX11_begin_8 (Nat.le_of_ble_eq_true rfl) rfl
theorem dX11_begin_10 : decode cX11_begin 10 = .ok (.aload_n 0, 1) := by decide +kernel
theorem tX11_begin_10 {d : Nat} {l1 l2 l3 l4 l5 l6 l7 l8 l9 l10 l11 l12 : Option Value} {x : Nat} {m : jmM} {Q : Option Value → jmM → Prop} : AW d 146 10 [some (.ref x), l1, l2, l3, l4, l5, l6, l7, l8, l9, l10, l11, l12] [] m Q ↔ AW d 146 11 [some (.ref x), l1, l2, l3, l4, l5, l6, l7, l8, l9, l10, l11, l12] [.ref x] m Q := A_aload_n hB_X11_begin dX11_begin_10 rfl
theorem dX11_begin_11 : decode cX11_begin 11 = .ok (.getfield 32, 3) := by decide +kernel
theorem tX11_begin_11 {d : Nat} {l0 l1 l2 l3 l4 l5 l6 l7 l8 l9 l10 l11 l12 : Option Value} {a : Nat} {m : jmM} {Q : Option Value → jmM → Prop} : AW d 146 11 [l0, l1, l2, l3, l4, l5, l6, l7, l8, l9, l10, l11, l12] [.ref a] m Q ↔ (mS m a).1 = 11 ∧ AW d 146 14 [l0, l1, l2, l3, l4, l5, l6, l7, l8, l9, l10, l11, l12] [va_rf (mR m a 3)] m Q := A_getfield (f := fun m a => va_rf (mR m a 3)) hB_X11_begin dX11_begin_11 hO_X11_begin fF_11_32 rfl
theorem dX11_begin_14 : decode cX11_begin 14 = .ok (.iload_n 2, 1) := by decide +kernel
theorem tX11_begin_14 {d : Nat} {l0 l1 l3 l4 l5 l6 l7 l8 l9 l10 l11 l12 : Option Value} {v0 : Value} {x : Int32} {m : jmM} {Q : Option Value → jmM → Prop} : AW d 146 14 [l0, l1, some (.int x), l3, l4, l5, l6, l7, l8, l9, l10, l11, l12] [v0] m Q ↔ AW d 146 15 [l0, l1, some (.int x), l3, l4, l5, l6, l7, l8, l9, l10, l11, l12] [.int x, v0] m Q := A_iload_n hB_X11_begin dX11_begin_14 rfl
theorem dX11_begin_15 : decode cX11_begin 15 = .ok (.invokevirtual 136, 3) := by decide +kernel
theorem tX11_begin_15 {d : Nat} {l0 l1 l2 l3 l4 l5 l6 l7 l8 l9 l10 l11 l12 : Option Value} {y0 : Value} {a : Nat} {m : jmM} {Q : Option Value → jmM → Prop} : AW d 146 15 [l0, l1, l2, l3, l4, l5, l6, l7, l8, l9, l10, l11, l12] [y0, .ref a] m Q ↔ (mS m a).1 = 4 ∧ CC d 45 [.ref a, y0] m (jK d 146 18 [l0, l1, l2, l3, l4, l5, l6, l7, l8, l9, l10, l11, l12] [] Q) := A_callV hB_X11_begin dX11_begin_15 hO_X11_begin fS_11_136 ⟨Nat.le_of_ble_eq_true rfl, Nat.le_of_ble_eq_true rfl⟩ rfl rfl rfl
theorem dX11_begin_18 : decode cX11_begin 18 = .ok (.astore 11, 2) := by decide +kernel
theorem tX11_begin_18 {d : Nat} {l0 l1 l2 l3 l4 l5 l6 l7 l8 l9 l10 l11 l12 : Option Value} {x : Nat} {m : jmM} {Q : Option Value → jmM → Prop} : AW d 146 18 [l0, l1, l2, l3, l4, l5, l6, l7, l8, l9, l10, l11, l12] [.ref x] m Q ↔ AW d 146 20 [l0, l1, l2, l3, l4, l5, l6, l7, l8, l9, jc1 l10, some (.ref x), l12] [] m Q := A_astore hB_X11_begin dX11_begin_18 (Nat.le_of_ble_eq_true rfl) rfl
theorem tX11_begin_18q {d : Nat} {l0 l1 l2 l3 l4 l5 l6 l7 l8 l9 l10 l11 l12 : Option Value} {x : Option Nat} {m : jmM} {Q : Option Value → jmM → Prop} : AW d 146 18 [l0, l1, l2, l3, l4, l5, l6, l7, l8, l9, l10, l11, l12] [va_rf x] m Q ↔ AW d 146 20 [l0, l1, l2, l3, l4, l5, l6, l7, l8, l9, jc1 l10, some (va_rf x), l12] [] m Q := A_astoreq hB_X11_begin dX11_begin_18 (Nat.le_of_ble_eq_true rfl) rfl
theorem dX11_begin_20 : decode cX11_begin 20 = .ok (.aload 10, 2) := by decide +kernel
theorem tX11_begin_20 {d : Nat} {l0 l1 l2 l3 l4 l5 l6 l7 l8 l9 l11 l12 : Option Value} {x : Nat} {m : jmM} {Q : Option Value → jmM → Prop} : AW d 146 20 [l0, l1, l2, l3, l4, l5, l6, l7, l8, l9, some (.ref x), l11, l12] [] m Q ↔ AW d 146 22 [l0, l1, l2, l3, l4, l5, l6, l7, l8, l9, some (.ref x), l11, l12] [.ref x] m Q := A_aload hB_X11_begin dX11_begin_20 rfl
theorem tX11_begin_20q {d : Nat} {l0 l1 l2 l3 l4 l5 l6 l7 l8 l9 l11 l12 : Option Value} {x : Option Nat} {m : jmM} {Q : Option Value → jmM → Prop} : AW d 146 20 [l0, l1, l2, l3, l4, l5, l6, l7, l8, l9, some (va_rf x), l11, l12] [] m Q ↔ AW d 146 22 [l0, l1, l2, l3, l4, l5, l6, l7, l8, l9, some (va_rf x), l11, l12] [va_rf x] m Q := A_aloadq hB_X11_begin dX11_begin_20 rfl
theorem dX11_begin_22 : decode cX11_begin 22 = .ok (.ifnull 13, 3) := by decide +kernel
theorem tX11_begin_22 {d : Nat} {l0 l1 l2 l3 l4 l5 l6 l7 l8 l9 l10 l11 l12 : Option Value} {x : Option Nat} {m : jmM} {Q : Option Value → jmM → Prop} : AW d 146 22 [l0, l1, l2, l3, l4, l5, l6, l7, l8, l9, l10, l11, l12] [va_rf x] m Q ↔ if x = none then AW d 146 35 [l0, l1, l2, l3, l4, l5, l6, l7, l8, l9, l10, l11, l12] [] m Q else AW d 146 25 [l0, l1, l2, l3, l4, l5, l6, l7, l8, l9, l10, l11, l12] [] m Q := A_ifnull hB_X11_begin dX11_begin_22 (by decide)
theorem tX11_begin_22r {d : Nat} {l0 l1 l2 l3 l4 l5 l6 l7 l8 l9 l10 l11 l12 : Option Value} {x : Nat} {m : jmM} {Q : Option Value → jmM → Prop} : AW d 146 22 [l0, l1, l2, l3, l4, l5, l6, l7, l8, l9, l10, l11, l12] [.ref x] m Q ↔ AW d 146 25 [l0, l1, l2, l3, l4, l5, l6, l7, l8, l9, l10, l11, l12] [] m Q := A_ifnull_r hB_X11_begin dX11_begin_22 (t := 35) (by decide)
theorem dX11_begin_25 : decode cX11_begin 25 = .ok (.aload 11, 2) := by decide +kernel
theorem tX11_begin_25 {d : Nat} {l0 l1 l2 l3 l4 l5 l6 l7 l8 l9 l10 l12 : Option Value} {x : Nat} {m : jmM} {Q : Option Value → jmM → Prop} : AW d 146 25 [l0, l1, l2, l3, l4, l5, l6, l7, l8, l9, l10, some (.ref x), l12] [] m Q ↔ AW d 146 27 [l0, l1, l2, l3, l4, l5, l6, l7, l8, l9, l10, some (.ref x), l12] [.ref x] m Q := A_aload hB_X11_begin dX11_begin_25 rfl
theorem tX11_begin_25q {d : Nat} {l0 l1 l2 l3 l4 l5 l6 l7 l8 l9 l10 l12 : Option Value} {x : Option Nat} {m : jmM} {Q : Option Value → jmM → Prop} : AW d 146 25 [l0, l1, l2, l3, l4, l5, l6, l7, l8, l9, l10, some (va_rf x), l12] [] m Q ↔ AW d 146 27 [l0, l1, l2, l3, l4, l5, l6, l7, l8, l9, l10, some (va_rf x), l12] [va_rf x] m Q := A_aloadq hB_X11_begin dX11_begin_25 rfl
theorem dX11_begin_27 : decode cX11_begin 27 = .ok (.ifnull 8, 3) := by decide +kernel
theorem tX11_begin_27 {d : Nat} {l0 l1 l2 l3 l4 l5 l6 l7 l8 l9 l10 l11 l12 : Option Value} {x : Option Nat} {m : jmM} {Q : Option Value → jmM → Prop} : AW d 146 27 [l0, l1, l2, l3, l4, l5, l6, l7, l8, l9, l10, l11, l12] [va_rf x] m Q ↔ if x = none then AW d 146 35 [l0, l1, l2, l3, l4, l5, l6, l7, l8, l9, l10, l11, l12] [] m Q else AW d 146 30 [l0, l1, l2, l3, l4, l5, l6, l7, l8, l9, l10, l11, l12] [] m Q := A_ifnull hB_X11_begin dX11_begin_27 (by decide)
theorem tX11_begin_27r {d : Nat} {l0 l1 l2 l3 l4 l5 l6 l7 l8 l9 l10 l11 l12 : Option Value} {x : Nat} {m : jmM} {Q : Option Value → jmM → Prop} : AW d 146 27 [l0, l1, l2, l3, l4, l5, l6, l7, l8, l9, l10, l11, l12] [.ref x] m Q ↔ AW d 146 30 [l0, l1, l2, l3, l4, l5, l6, l7, l8, l9, l10, l11, l12] [] m Q := A_ifnull_r hB_X11_begin dX11_begin_27 (t := 35) (by decide)
theorem dX11_begin_30 : decode cX11_begin 30 = .ok (.iload 7, 2) := by decide +kernel
theorem tX11_begin_30 {d : Nat} {l0 l1 l2 l3 l4 l5 l6 l8 l9 l10 l11 l12 : Option Value} {x : Int32} {m : jmM} {Q : Option Value → jmM → Prop} : AW d 146 30 [l0, l1, l2, l3, l4, l5, l6, some (.int x), l8, l9, l10, l11, l12] [] m Q ↔ AW d 146 32 [l0, l1, l2, l3, l4, l5, l6, some (.int x), l8, l9, l10, l11, l12] [.int x] m Q := A_iload hB_X11_begin dX11_begin_30 rfl
theorem dX11_begin_32 : decode cX11_begin 32 = .ok (.ifCond .ge 5, 3) := by decide +kernel
theorem tX11_begin_32 {d : Nat} {l0 l1 l2 l3 l4 l5 l6 l7 l8 l9 l10 l11 l12 : Option Value} {x : Int32} {m : jmM} {Q : Option Value → jmM → Prop} : AW d 146 32 [l0, l1, l2, l3, l4, l5, l6, l7, l8, l9, l10, l11, l12] [.int x] m Q ↔ if 0 ≤ x then AW d 146 37 [l0, l1, l2, l3, l4, l5, l6, l7, l8, l9, l10, l11, l12] [] m Q else AW d 146 35 [l0, l1, l2, l3, l4, l5, l6, l7, l8, l9, l10, l11, l12] [] m Q := A_if_ge hB_X11_begin dX11_begin_32 (by decide)
theorem dX11_begin_35 : decode cX11_begin 35 = .ok (.iconst 0, 1) := by decide +kernel
theorem tX11_begin_35 {d : Nat} {l0 l1 l2 l3 l4 l5 l6 l7 l8 l9 l10 l11 l12 : Option Value} {m : jmM} {Q : Option Value → jmM → Prop} : AW d 146 35 [l0, l1, l2, l3, l4, l5, l6, l7, l8, l9, l10, l11, l12] [] m Q ↔ AW d 146 36 [l0, l1, l2, l3, l4, l5, l6, l7, l8, l9, l10, l11, l12] [.int 0] m Q := A_iconst hB_X11_begin dX11_begin_35 (by decide)
theorem dX11_begin_36 : decode cX11_begin 36 = .ok (.ireturn, 1) := by decide +kernel
theorem tX11_begin_36 {d : Nat} {l0 l1 l2 l3 l4 l5 l6 l7 l8 l9 l10 l11 l12 : Option Value} {x : Int32} {m : jmM} {Q : Option Value → jmM → Prop} : AW d 146 36 [l0, l1, l2, l3, l4, l5, l6, l7, l8, l9, l10, l11, l12] [.int x] m Q ↔ jBool x ∧ Q (some (.int x)) m := A_zreturn hB_X11_begin dX11_begin_36 hR_X11_begin
theorem dX11_begin_37 : decode cX11_begin 37 = .ok (.iload_n 3, 1) := by decide +kernel
theorem tX11_begin_37 {d : Nat} {l0 l1 l2 l4 l5 l6 l7 l8 l9 l10 l11 l12 : Option Value} {x : Int32} {m : jmM} {Q : Option Value → jmM → Prop} : AW d 146 37 [l0, l1, l2, some (.int x), l4, l5, l6, l7, l8, l9, l10, l11, l12] [] m Q ↔ AW d 146 38 [l0, l1, l2, some (.int x), l4, l5, l6, l7, l8, l9, l10, l11, l12] [.int x] m Q := A_iload_n hB_X11_begin dX11_begin_37 rfl
theorem dX11_begin_38 : decode cX11_begin 38 = .ok (.iconst 1, 1) := by decide +kernel
theorem tX11_begin_38 {d : Nat} {l0 l1 l2 l3 l4 l5 l6 l7 l8 l9 l10 l11 l12 : Option Value} {v0 : Value} {m : jmM} {Q : Option Value → jmM → Prop} : AW d 146 38 [l0, l1, l2, l3, l4, l5, l6, l7, l8, l9, l10, l11, l12] [v0] m Q ↔ AW d 146 39 [l0, l1, l2, l3, l4, l5, l6, l7, l8, l9, l10, l11, l12] [.int 1, v0] m Q := A_iconst hB_X11_begin dX11_begin_38 (by decide)
theorem dX11_begin_39 : decode cX11_begin 39 = .ok (.ldc 140, 2) := by decide +kernel
theorem tX11_begin_39 {d : Nat} {l0 l1 l2 l3 l4 l5 l6 l7 l8 l9 l10 l11 l12 : Option Value} {v0 v1 : Value} {m : jmM} {Q : Option Value → jmM → Prop} : AW d 146 39 [l0, l1, l2, l3, l4, l5, l6, l7, l8, l9, l10, l11, l12] [v0, v1] m Q ↔ AW d 146 41 [l0, l1, l2, l3, l4, l5, l6, l7, l8, l9, l10, l11, l12] [.int 99999, v0, v1] m Q := A_ldc hB_X11_begin dX11_begin_39 hO_X11_begin fL_11_140
theorem dX11_begin_41 : decode cX11_begin 41 = .ok (.invokestatic 128, 3) := by decide +kernel
theorem tX11_begin_41 {d : Nat} {l0 l1 l2 l3 l4 l5 l6 l7 l8 l9 l10 l11 l12 : Option Value} {y0 y1 y2 : Value} {m : jmM} {Q : Option Value → jmM → Prop} : AW d 146 41 [l0, l1, l2, l3, l4, l5, l6, l7, l8, l9, l10, l11, l12] [y0, y1, y2] m Q ↔ CC d 183 [y2, y1, y0] m (jK d 146 44 [l0, l1, l2, l3, l4, l5, l6, l7, l8, l9, l10, l11, l12] [] Q) := A_callS0 hB_X11_begin dX11_begin_41 hO_X11_begin fS_11_128 ⟨Nat.le_of_ble_eq_true rfl, Nat.le_of_ble_eq_true rfl⟩ rfl rfl
theorem dX11_begin_44 : decode cX11_begin 44 = .ok (.ifCond .eq 27, 3) := by decide +kernel
theorem tX11_begin_44 {d : Nat} {l0 l1 l2 l3 l4 l5 l6 l7 l8 l9 l10 l11 l12 : Option Value} {x : Int32} {m : jmM} {Q : Option Value → jmM → Prop} : AW d 146 44 [l0, l1, l2, l3, l4, l5, l6, l7, l8, l9, l10, l11, l12] [.int x] m Q ↔ if x = 0 then AW d 146 71 [l0, l1, l2, l3, l4, l5, l6, l7, l8, l9, l10, l11, l12] [] m Q else AW d 146 47 [l0, l1, l2, l3, l4, l5, l6, l7, l8, l9, l10, l11, l12] [] m Q := A_if_eq hB_X11_begin dX11_begin_44 (by decide)
theorem dX11_begin_47 : decode cX11_begin 47 = .ok (.iload 4, 2) := by decide +kernel
theorem tX11_begin_47 {d : Nat} {l0 l1 l2 l3 l5 l6 l7 l8 l9 l10 l11 l12 : Option Value} {x : Int32} {m : jmM} {Q : Option Value → jmM → Prop} : AW d 146 47 [l0, l1, l2, l3, some (.int x), l5, l6, l7, l8, l9, l10, l11, l12] [] m Q ↔ AW d 146 49 [l0, l1, l2, l3, some (.int x), l5, l6, l7, l8, l9, l10, l11, l12] [.int x] m Q := A_iload hB_X11_begin dX11_begin_47 rfl
theorem dX11_begin_49 : decode cX11_begin 49 = .ok (.iconst 1, 1) := by decide +kernel
theorem tX11_begin_49 {d : Nat} {l0 l1 l2 l3 l4 l5 l6 l7 l8 l9 l10 l11 l12 : Option Value} {v0 : Value} {m : jmM} {Q : Option Value → jmM → Prop} : AW d 146 49 [l0, l1, l2, l3, l4, l5, l6, l7, l8, l9, l10, l11, l12] [v0] m Q ↔ AW d 146 50 [l0, l1, l2, l3, l4, l5, l6, l7, l8, l9, l10, l11, l12] [.int 1, v0] m Q := A_iconst hB_X11_begin dX11_begin_49 (by decide)
theorem dX11_begin_50 : decode cX11_begin 50 = .ok (.sipush 9999, 3) := by decide +kernel
theorem tX11_begin_50 {d : Nat} {l0 l1 l2 l3 l4 l5 l6 l7 l8 l9 l10 l11 l12 : Option Value} {v0 v1 : Value} {m : jmM} {Q : Option Value → jmM → Prop} : AW d 146 50 [l0, l1, l2, l3, l4, l5, l6, l7, l8, l9, l10, l11, l12] [v0, v1] m Q ↔ AW d 146 53 [l0, l1, l2, l3, l4, l5, l6, l7, l8, l9, l10, l11, l12] [.int 9999, v0, v1] m Q := A_sipush hB_X11_begin dX11_begin_50 rfl
theorem dX11_begin_53 : decode cX11_begin 53 = .ok (.invokestatic 128, 3) := by decide +kernel
theorem tX11_begin_53 {d : Nat} {l0 l1 l2 l3 l4 l5 l6 l7 l8 l9 l10 l11 l12 : Option Value} {y0 y1 y2 : Value} {m : jmM} {Q : Option Value → jmM → Prop} : AW d 146 53 [l0, l1, l2, l3, l4, l5, l6, l7, l8, l9, l10, l11, l12] [y0, y1, y2] m Q ↔ CC d 183 [y2, y1, y0] m (jK d 146 56 [l0, l1, l2, l3, l4, l5, l6, l7, l8, l9, l10, l11, l12] [] Q) := A_callS0 hB_X11_begin dX11_begin_53 hO_X11_begin fS_11_128 ⟨Nat.le_of_ble_eq_true rfl, Nat.le_of_ble_eq_true rfl⟩ rfl rfl
theorem dX11_begin_56 : decode cX11_begin 56 = .ok (.ifCond .eq 15, 3) := by decide +kernel
theorem tX11_begin_56 {d : Nat} {l0 l1 l2 l3 l4 l5 l6 l7 l8 l9 l10 l11 l12 : Option Value} {x : Int32} {m : jmM} {Q : Option Value → jmM → Prop} : AW d 146 56 [l0, l1, l2, l3, l4, l5, l6, l7, l8, l9, l10, l11, l12] [.int x] m Q ↔ if x = 0 then AW d 146 71 [l0, l1, l2, l3, l4, l5, l6, l7, l8, l9, l10, l11, l12] [] m Q else AW d 146 59 [l0, l1, l2, l3, l4, l5, l6, l7, l8, l9, l10, l11, l12] [] m Q := A_if_eq hB_X11_begin dX11_begin_56 (by decide)
theorem dX11_begin_59 : decode cX11_begin 59 = .ok (.iload 5, 2) := by decide +kernel
theorem tX11_begin_59 {d : Nat} {l0 l1 l2 l3 l4 l6 l7 l8 l9 l10 l11 l12 : Option Value} {x : Int32} {m : jmM} {Q : Option Value → jmM → Prop} : AW d 146 59 [l0, l1, l2, l3, l4, some (.int x), l6, l7, l8, l9, l10, l11, l12] [] m Q ↔ AW d 146 61 [l0, l1, l2, l3, l4, some (.int x), l6, l7, l8, l9, l10, l11, l12] [.int x] m Q := A_iload hB_X11_begin dX11_begin_59 rfl
theorem dX11_begin_61 : decode cX11_begin 61 = .ok (.iconst 0, 1) := by decide +kernel
theorem tX11_begin_61 {d : Nat} {l0 l1 l2 l3 l4 l5 l6 l7 l8 l9 l10 l11 l12 : Option Value} {v0 : Value} {m : jmM} {Q : Option Value → jmM → Prop} : AW d 146 61 [l0, l1, l2, l3, l4, l5, l6, l7, l8, l9, l10, l11, l12] [v0] m Q ↔ AW d 146 62 [l0, l1, l2, l3, l4, l5, l6, l7, l8, l9, l10, l11, l12] [.int 0, v0] m Q := A_iconst hB_X11_begin dX11_begin_61 (by decide)
theorem dX11_begin_62 : decode cX11_begin 62 = .ok (.sipush 999, 3) := by decide +kernel
theorem tX11_begin_62 {d : Nat} {l0 l1 l2 l3 l4 l5 l6 l7 l8 l9 l10 l11 l12 : Option Value} {v0 v1 : Value} {m : jmM} {Q : Option Value → jmM → Prop} : AW d 146 62 [l0, l1, l2, l3, l4, l5, l6, l7, l8, l9, l10, l11, l12] [v0, v1] m Q ↔ AW d 146 65 [l0, l1, l2, l3, l4, l5, l6, l7, l8, l9, l10, l11, l12] [.int 999, v0, v1] m Q := A_sipush hB_X11_begin dX11_begin_62 rfl
theorem dX11_begin_65 : decode cX11_begin 65 = .ok (.invokestatic 128, 3) := by decide +kernel
theorem tX11_begin_65 {d : Nat} {l0 l1 l2 l3 l4 l5 l6 l7 l8 l9 l10 l11 l12 : Option Value} {y0 y1 y2 : Value} {m : jmM} {Q : Option Value → jmM → Prop} : AW d 146 65 [l0, l1, l2, l3, l4, l5, l6, l7, l8, l9, l10, l11, l12] [y0, y1, y2] m Q ↔ CC d 183 [y2, y1, y0] m (jK d 146 68 [l0, l1, l2, l3, l4, l5, l6, l7, l8, l9, l10, l11, l12] [] Q) := A_callS0 hB_X11_begin dX11_begin_65 hO_X11_begin fS_11_128 ⟨Nat.le_of_ble_eq_true rfl, Nat.le_of_ble_eq_true rfl⟩ rfl rfl
theorem dX11_begin_68 : decode cX11_begin 68 = .ok (.ifCond .ne 5, 3) := by decide +kernel
theorem tX11_begin_68 {d : Nat} {l0 l1 l2 l3 l4 l5 l6 l7 l8 l9 l10 l11 l12 : Option Value} {x : Int32} {m : jmM} {Q : Option Value → jmM → Prop} : AW d 146 68 [l0, l1, l2, l3, l4, l5, l6, l7, l8, l9, l10, l11, l12] [.int x] m Q ↔ if x = 0 then AW d 146 71 [l0, l1, l2, l3, l4, l5, l6, l7, l8, l9, l10, l11, l12] [] m Q else AW d 146 73 [l0, l1, l2, l3, l4, l5, l6, l7, l8, l9, l10, l11, l12] [] m Q := A_if_ne hB_X11_begin dX11_begin_68 (by decide)
theorem dX11_begin_71 : decode cX11_begin 71 = .ok (.iconst 0, 1) := by decide +kernel
theorem tX11_begin_71 {d : Nat} {l0 l1 l2 l3 l4 l5 l6 l7 l8 l9 l10 l11 l12 : Option Value} {m : jmM} {Q : Option Value → jmM → Prop} : AW d 146 71 [l0, l1, l2, l3, l4, l5, l6, l7, l8, l9, l10, l11, l12] [] m Q ↔ AW d 146 72 [l0, l1, l2, l3, l4, l5, l6, l7, l8, l9, l10, l11, l12] [.int 0] m Q := A_iconst hB_X11_begin dX11_begin_71 (by decide)
theorem dX11_begin_72 : decode cX11_begin 72 = .ok (.ireturn, 1) := by decide +kernel
theorem tX11_begin_72 {d : Nat} {l0 l1 l2 l3 l4 l5 l6 l7 l8 l9 l10 l11 l12 : Option Value} {x : Int32} {m : jmM} {Q : Option Value → jmM → Prop} : AW d 146 72 [l0, l1, l2, l3, l4, l5, l6, l7, l8, l9, l10, l11, l12] [.int x] m Q ↔ jBool x ∧ Q (some (.int x)) m := A_zreturn hB_X11_begin dX11_begin_72 hR_X11_begin
theorem dX11_begin_73 : decode cX11_begin 73 = .ok (.iload 6, 2) := by decide +kernel
theorem tX11_begin_73 {d : Nat} {l0 l1 l2 l3 l4 l5 l7 l8 l9 l10 l11 l12 : Option Value} {x : Int32} {m : jmM} {Q : Option Value → jmM → Prop} : AW d 146 73 [l0, l1, l2, l3, l4, l5, some (.int x), l7, l8, l9, l10, l11, l12] [] m Q ↔ AW d 146 75 [l0, l1, l2, l3, l4, l5, some (.int x), l7, l8, l9, l10, l11, l12] [.int x] m Q := A_iload hB_X11_begin dX11_begin_73 rfl
theorem dX11_begin_75 : decode cX11_begin 75 = .ok (.iconst 1, 1) := by decide +kernel
theorem tX11_begin_75 {d : Nat} {l0 l1 l2 l3 l4 l5 l6 l7 l8 l9 l10 l11 l12 : Option Value} {v0 : Value} {m : jmM} {Q : Option Value → jmM → Prop} : AW d 146 75 [l0, l1, l2, l3, l4, l5, l6, l7, l8, l9, l10, l11, l12] [v0] m Q ↔ AW d 146 76 [l0, l1, l2, l3, l4, l5, l6, l7, l8, l9, l10, l11, l12] [.int 1, v0] m Q := A_iconst hB_X11_begin dX11_begin_75 (by decide)
theorem dX11_begin_76 : decode cX11_begin 76 = .ok (.sipush 9999, 3) := by decide +kernel
theorem tX11_begin_76 {d : Nat} {l0 l1 l2 l3 l4 l5 l6 l7 l8 l9 l10 l11 l12 : Option Value} {v0 v1 : Value} {m : jmM} {Q : Option Value → jmM → Prop} : AW d 146 76 [l0, l1, l2, l3, l4, l5, l6, l7, l8, l9, l10, l11, l12] [v0, v1] m Q ↔ AW d 146 79 [l0, l1, l2, l3, l4, l5, l6, l7, l8, l9, l10, l11, l12] [.int 9999, v0, v1] m Q := A_sipush hB_X11_begin dX11_begin_76 rfl
theorem dX11_begin_79 : decode cX11_begin 79 = .ok (.invokestatic 128, 3) := by decide +kernel
theorem tX11_begin_79 {d : Nat} {l0 l1 l2 l3 l4 l5 l6 l7 l8 l9 l10 l11 l12 : Option Value} {y0 y1 y2 : Value} {m : jmM} {Q : Option Value → jmM → Prop} : AW d 146 79 [l0, l1, l2, l3, l4, l5, l6, l7, l8, l9, l10, l11, l12] [y0, y1, y2] m Q ↔ CC d 183 [y2, y1, y0] m (jK d 146 82 [l0, l1, l2, l3, l4, l5, l6, l7, l8, l9, l10, l11, l12] [] Q) := A_callS0 hB_X11_begin dX11_begin_79 hO_X11_begin fS_11_128 ⟨Nat.le_of_ble_eq_true rfl, Nat.le_of_ble_eq_true rfl⟩ rfl rfl
theorem dX11_begin_82 : decode cX11_begin 82 = .ok (.ifCond .eq 27, 3) := by decide +kernel
theorem tX11_begin_82 {d : Nat} {l0 l1 l2 l3 l4 l5 l6 l7 l8 l9 l10 l11 l12 : Option Value} {x : Int32} {m : jmM} {Q : Option Value → jmM → Prop} : AW d 146 82 [l0, l1, l2, l3, l4, l5, l6, l7, l8, l9, l10, l11, l12] [.int x] m Q ↔ if x = 0 then AW d 146 109 [l0, l1, l2, l3, l4, l5, l6, l7, l8, l9, l10, l11, l12] [] m Q else AW d 146 85 [l0, l1, l2, l3, l4, l5, l6, l7, l8, l9, l10, l11, l12] [] m Q := A_if_eq hB_X11_begin dX11_begin_82 (by decide)
theorem dX11_begin_85 : decode cX11_begin 85 = .ok (.iload 8, 2) := by decide +kernel
theorem tX11_begin_85 {d : Nat} {l0 l1 l2 l3 l4 l5 l6 l7 l9 l10 l11 l12 : Option Value} {x : Int32} {m : jmM} {Q : Option Value → jmM → Prop} : AW d 146 85 [l0, l1, l2, l3, l4, l5, l6, l7, some (.int x), l9, l10, l11, l12] [] m Q ↔ AW d 146 87 [l0, l1, l2, l3, l4, l5, l6, l7, some (.int x), l9, l10, l11, l12] [.int x] m Q := A_iload hB_X11_begin dX11_begin_85 rfl
theorem dX11_begin_87 : decode cX11_begin 87 = .ok (.iconst 1, 1) := by decide +kernel
theorem tX11_begin_87 {d : Nat} {l0 l1 l2 l3 l4 l5 l6 l7 l8 l9 l10 l11 l12 : Option Value} {v0 : Value} {m : jmM} {Q : Option Value → jmM → Prop} : AW d 146 87 [l0, l1, l2, l3, l4, l5, l6, l7, l8, l9, l10, l11, l12] [v0] m Q ↔ AW d 146 88 [l0, l1, l2, l3, l4, l5, l6, l7, l8, l9, l10, l11, l12] [.int 1, v0] m Q := A_iconst hB_X11_begin dX11_begin_87 (by decide)
theorem dX11_begin_88 : decode cX11_begin 88 = .ok (.sipush 900, 3) := by decide +kernel
theorem tX11_begin_88 {d : Nat} {l0 l1 l2 l3 l4 l5 l6 l7 l8 l9 l10 l11 l12 : Option Value} {v0 v1 : Value} {m : jmM} {Q : Option Value → jmM → Prop} : AW d 146 88 [l0, l1, l2, l3, l4, l5, l6, l7, l8, l9, l10, l11, l12] [v0, v1] m Q ↔ AW d 146 91 [l0, l1, l2, l3, l4, l5, l6, l7, l8, l9, l10, l11, l12] [.int 900, v0, v1] m Q := A_sipush hB_X11_begin dX11_begin_88 rfl
theorem dX11_begin_91 : decode cX11_begin 91 = .ok (.invokestatic 128, 3) := by decide +kernel
theorem tX11_begin_91 {d : Nat} {l0 l1 l2 l3 l4 l5 l6 l7 l8 l9 l10 l11 l12 : Option Value} {y0 y1 y2 : Value} {m : jmM} {Q : Option Value → jmM → Prop} : AW d 146 91 [l0, l1, l2, l3, l4, l5, l6, l7, l8, l9, l10, l11, l12] [y0, y1, y2] m Q ↔ CC d 183 [y2, y1, y0] m (jK d 146 94 [l0, l1, l2, l3, l4, l5, l6, l7, l8, l9, l10, l11, l12] [] Q) := A_callS0 hB_X11_begin dX11_begin_91 hO_X11_begin fS_11_128 ⟨Nat.le_of_ble_eq_true rfl, Nat.le_of_ble_eq_true rfl⟩ rfl rfl
theorem dX11_begin_94 : decode cX11_begin 94 = .ok (.ifCond .eq 15, 3) := by decide +kernel
theorem tX11_begin_94 {d : Nat} {l0 l1 l2 l3 l4 l5 l6 l7 l8 l9 l10 l11 l12 : Option Value} {x : Int32} {m : jmM} {Q : Option Value → jmM → Prop} : AW d 146 94 [l0, l1, l2, l3, l4, l5, l6, l7, l8, l9, l10, l11, l12] [.int x] m Q ↔ if x = 0 then AW d 146 109 [l0, l1, l2, l3, l4, l5, l6, l7, l8, l9, l10, l11, l12] [] m Q else AW d 146 97 [l0, l1, l2, l3, l4, l5, l6, l7, l8, l9, l10, l11, l12] [] m Q := A_if_eq hB_X11_begin dX11_begin_94 (by decide)
theorem dX11_begin_97 : decode cX11_begin 97 = .ok (.iload 9, 2) := by decide +kernel
theorem tX11_begin_97 {d : Nat} {l0 l1 l2 l3 l4 l5 l6 l7 l8 l10 l11 l12 : Option Value} {x : Int32} {m : jmM} {Q : Option Value → jmM → Prop} : AW d 146 97 [l0, l1, l2, l3, l4, l5, l6, l7, l8, some (.int x), l10, l11, l12] [] m Q ↔ AW d 146 99 [l0, l1, l2, l3, l4, l5, l6, l7, l8, some (.int x), l10, l11, l12] [.int x] m Q := A_iload hB_X11_begin dX11_begin_97 rfl
theorem dX11_begin_99 : decode cX11_begin 99 = .ok (.iconst 0, 1) := by decide +kernel
theorem tX11_begin_99 {d : Nat} {l0 l1 l2 l3 l4 l5 l6 l7 l8 l9 l10 l11 l12 : Option Value} {v0 : Value} {m : jmM} {Q : Option Value → jmM → Prop} : AW d 146 99 [l0, l1, l2, l3, l4, l5, l6, l7, l8, l9, l10, l11, l12] [v0] m Q ↔ AW d 146 100 [l0, l1, l2, l3, l4, l5, l6, l7, l8, l9, l10, l11, l12] [.int 0, v0] m Q := A_iconst hB_X11_begin dX11_begin_99 (by decide)
theorem dX11_begin_100 : decode cX11_begin 100 = .ok (.sipush 999, 3) := by decide +kernel
theorem tX11_begin_100 {d : Nat} {l0 l1 l2 l3 l4 l5 l6 l7 l8 l9 l10 l11 l12 : Option Value} {v0 v1 : Value} {m : jmM} {Q : Option Value → jmM → Prop} : AW d 146 100 [l0, l1, l2, l3, l4, l5, l6, l7, l8, l9, l10, l11, l12] [v0, v1] m Q ↔ AW d 146 103 [l0, l1, l2, l3, l4, l5, l6, l7, l8, l9, l10, l11, l12] [.int 999, v0, v1] m Q := A_sipush hB_X11_begin dX11_begin_100 rfl
theorem dX11_begin_103 : decode cX11_begin 103 = .ok (.invokestatic 128, 3) := by decide +kernel
theorem tX11_begin_103 {d : Nat} {l0 l1 l2 l3 l4 l5 l6 l7 l8 l9 l10 l11 l12 : Option Value} {y0 y1 y2 : Value} {m : jmM} {Q : Option Value → jmM → Prop} : AW d 146 103 [l0, l1, l2, l3, l4, l5, l6, l7, l8, l9, l10, l11, l12] [y0, y1, y2] m Q ↔ CC d 183 [y2, y1, y0] m (jK d 146 106 [l0, l1, l2, l3, l4, l5, l6, l7, l8, l9, l10, l11, l12] [] Q) := A_callS0 hB_X11_begin dX11_begin_103 hO_X11_begin fS_11_128 ⟨Nat.le_of_ble_eq_true rfl, Nat.le_of_ble_eq_true rfl⟩ rfl rfl
theorem dX11_begin_106 : decode cX11_begin 106 = .ok (.ifCond .ne 5, 3) := by decide +kernel
theorem tX11_begin_106 {d : Nat} {l0 l1 l2 l3 l4 l5 l6 l7 l8 l9 l10 l11 l12 : Option Value} {x : Int32} {m : jmM} {Q : Option Value → jmM → Prop} : AW d 146 106 [l0, l1, l2, l3, l4, l5, l6, l7, l8, l9, l10, l11, l12] [.int x] m Q ↔ if x = 0 then AW d 146 109 [l0, l1, l2, l3, l4, l5, l6, l7, l8, l9, l10, l11, l12] [] m Q else AW d 146 111 [l0, l1, l2, l3, l4, l5, l6, l7, l8, l9, l10, l11, l12] [] m Q := A_if_ne hB_X11_begin dX11_begin_106 (by decide)
theorem dX11_begin_109 : decode cX11_begin 109 = .ok (.iconst 0, 1) := by decide +kernel
theorem tX11_begin_109 {d : Nat} {l0 l1 l2 l3 l4 l5 l6 l7 l8 l9 l10 l11 l12 : Option Value} {m : jmM} {Q : Option Value → jmM → Prop} : AW d 146 109 [l0, l1, l2, l3, l4, l5, l6, l7, l8, l9, l10, l11, l12] [] m Q ↔ AW d 146 110 [l0, l1, l2, l3, l4, l5, l6, l7, l8, l9, l10, l11, l12] [.int 0] m Q := A_iconst hB_X11_begin dX11_begin_109 (by decide)
theorem dX11_begin_110 : decode cX11_begin 110 = .ok (.ireturn, 1) := by decide +kernel
theorem tX11_begin_110 {d : Nat} {l0 l1 l2 l3 l4 l5 l6 l7 l8 l9 l10 l11 l12 : Option Value} {x : Int32} {m : jmM} {Q : Option Value → jmM → Prop} : AW d 146 110 [l0, l1, l2, l3, l4, l5, l6, l7, l8, l9, l10, l11, l12] [.int x] m Q ↔ jBool x ∧ Q (some (.int x)) m := A_zreturn hB_X11_begin dX11_begin_110 hR_X11_begin
theorem dX11_begin_111 : decode cX11_begin 111 = .ok (.aload_n 0, 1) := by decide +kernel
theorem tX11_begin_111 {d : Nat} {l1 l2 l3 l4 l5 l6 l7 l8 l9 l10 l11 l12 : Option Value} {x : Nat} {m : jmM} {Q : Option Value → jmM → Prop} : AW d 146 111 [some (.ref x), l1, l2, l3, l4, l5, l6, l7, l8, l9, l10, l11, l12] [] m Q ↔ AW d 146 112 [some (.ref x), l1, l2, l3, l4, l5, l6, l7, l8, l9, l10, l11, l12] [.ref x] m Q := A_aload_n hB_X11_begin dX11_begin_111 rfl
theorem dX11_begin_112 : decode cX11_begin 112 = .ok (.getfield 56, 3) := by decide +kernel
theorem tX11_begin_112 {d : Nat} {l0 l1 l2 l3 l4 l5 l6 l7 l8 l9 l10 l11 l12 : Option Value} {a : Nat} {m : jmM} {Q : Option Value → jmM → Prop} : AW d 146 112 [l0, l1, l2, l3, l4, l5, l6, l7, l8, l9, l10, l11, l12] [.ref a] m Q ↔ (mS m a).1 = 11 ∧ AW d 146 115 [l0, l1, l2, l3, l4, l5, l6, l7, l8, l9, l10, l11, l12] [va_rf (mR m a 8)] m Q := A_getfield (f := fun m a => va_rf (mR m a 8)) hB_X11_begin dX11_begin_112 hO_X11_begin fF_11_56 rfl
theorem dX11_begin_115 : decode cX11_begin 115 = .ok (.invokevirtual 141, 3) := by decide +kernel
theorem tX11_begin_115 {d : Nat} {l0 l1 l2 l3 l4 l5 l6 l7 l8 l9 l10 l11 l12 : Option Value} {a : Nat} {m : jmM} {Q : Option Value → jmM → Prop} : AW d 146 115 [l0, l1, l2, l3, l4, l5, l6, l7, l8, l9, l10, l11, l12] [.ref a] m Q ↔ (mS m a).1 = 5 ∧ CC d 47 [.ref a] m (jK d 146 118 [l0, l1, l2, l3, l4, l5, l6, l7, l8, l9, l10, l11, l12] [] Q) := A_callV hB_X11_begin dX11_begin_115 hO_X11_begin fS_11_141 ⟨Nat.le_of_ble_eq_true rfl, Nat.le_of_ble_eq_true rfl⟩ rfl rfl rfl
theorem dX11_begin_118 : decode cX11_begin 118 = .ok (.astore 12, 2) := by decide +kernel
theorem tX11_begin_118 {d : Nat} {l0 l1 l2 l3 l4 l5 l6 l7 l8 l9 l10 l11 l12 : Option Value} {x : Nat} {m : jmM} {Q : Option Value → jmM → Prop} : AW d 146 118 [l0, l1, l2, l3, l4, l5, l6, l7, l8, l9, l10, l11, l12] [.ref x] m Q ↔ AW d 146 120 [l0, l1, l2, l3, l4, l5, l6, l7, l8, l9, l10, jc1 l11, some (.ref x)] [] m Q := A_astore hB_X11_begin dX11_begin_118 (Nat.le_of_ble_eq_true rfl) rfl
theorem tX11_begin_118q {d : Nat} {l0 l1 l2 l3 l4 l5 l6 l7 l8 l9 l10 l11 l12 : Option Value} {x : Option Nat} {m : jmM} {Q : Option Value → jmM → Prop} : AW d 146 118 [l0, l1, l2, l3, l4, l5, l6, l7, l8, l9, l10, l11, l12] [va_rf x] m Q ↔ AW d 146 120 [l0, l1, l2, l3, l4, l5, l6, l7, l8, l9, l10, jc1 l11, some (va_rf x)] [] m Q := A_astoreq hB_X11_begin dX11_begin_118 (Nat.le_of_ble_eq_true rfl) rfl
theorem dX11_begin_120 : decode cX11_begin 120 = .ok (.aload 12, 2) := by decide +kernel
theorem tX11_begin_120 {d : Nat} {l0 l1 l2 l3 l4 l5 l6 l7 l8 l9 l10 l11 : Option Value} {x : Nat} {m : jmM} {Q : Option Value → jmM → Prop} : AW d 146 120 [l0, l1, l2, l3, l4, l5, l6, l7, l8, l9, l10, l11, some (.ref x)] [] m Q ↔ AW d 146 122 [l0, l1, l2, l3, l4, l5, l6, l7, l8, l9, l10, l11, some (.ref x)] [.ref x] m Q := A_aload hB_X11_begin dX11_begin_120 rfl
theorem tX11_begin_120q {d : Nat} {l0 l1 l2 l3 l4 l5 l6 l7 l8 l9 l10 l11 : Option Value} {x : Option Nat} {m : jmM} {Q : Option Value → jmM → Prop} : AW d 146 120 [l0, l1, l2, l3, l4, l5, l6, l7, l8, l9, l10, l11, some (va_rf x)] [] m Q ↔ AW d 146 122 [l0, l1, l2, l3, l4, l5, l6, l7, l8, l9, l10, l11, some (va_rf x)] [va_rf x] m Q := A_aloadq hB_X11_begin dX11_begin_120 rfl
theorem dX11_begin_122 : decode cX11_begin 122 = .ok (.iload_n 3, 1) := by decide +kernel
theorem tX11_begin_122 {d : Nat} {l0 l1 l2 l4 l5 l6 l7 l8 l9 l10 l11 l12 : Option Value} {v0 : Value} {x : Int32} {m : jmM} {Q : Option Value → jmM → Prop} : AW d 146 122 [l0, l1, l2, some (.int x), l4, l5, l6, l7, l8, l9, l10, l11, l12] [v0] m Q ↔ AW d 146 123 [l0, l1, l2, some (.int x), l4, l5, l6, l7, l8, l9, l10, l11, l12] [.int x, v0] m Q := A_iload_n hB_X11_begin dX11_begin_122 rfl
theorem dX11_begin_123 : decode cX11_begin 123 = .ok (.iload 4, 2) := by decide +kernel
theorem tX11_begin_123 {d : Nat} {l0 l1 l2 l3 l5 l6 l7 l8 l9 l10 l11 l12 : Option Value} {v0 v1 : Value} {x : Int32} {m : jmM} {Q : Option Value → jmM → Prop} : AW d 146 123 [l0, l1, l2, l3, some (.int x), l5, l6, l7, l8, l9, l10, l11, l12] [v0, v1] m Q ↔ AW d 146 125 [l0, l1, l2, l3, some (.int x), l5, l6, l7, l8, l9, l10, l11, l12] [.int x, v0, v1] m Q := A_iload hB_X11_begin dX11_begin_123 rfl
theorem dX11_begin_125 : decode cX11_begin 125 = .ok (.iload 5, 2) := by decide +kernel
theorem tX11_begin_125 {d : Nat} {l0 l1 l2 l3 l4 l6 l7 l8 l9 l10 l11 l12 : Option Value} {v0 v1 v2 : Value} {x : Int32} {m : jmM} {Q : Option Value → jmM → Prop} : AW d 146 125 [l0, l1, l2, l3, l4, some (.int x), l6, l7, l8, l9, l10, l11, l12] [v0, v1, v2] m Q ↔ AW d 146 127 [l0, l1, l2, l3, l4, some (.int x), l6, l7, l8, l9, l10, l11, l12] [.int x, v0, v1, v2] m Q := A_iload hB_X11_begin dX11_begin_125 rfl
theorem dX11_begin_127 : decode cX11_begin 127 = .ok (.iload 6, 2) := by decide +kernel
theorem tX11_begin_127 {d : Nat} {l0 l1 l2 l3 l4 l5 l7 l8 l9 l10 l11 l12 : Option Value} {v0 v1 v2 v3 : Value} {x : Int32} {m : jmM} {Q : Option Value → jmM → Prop} : AW d 146 127 [l0, l1, l2, l3, l4, l5, some (.int x), l7, l8, l9, l10, l11, l12] [v0, v1, v2, v3] m Q ↔ AW d 146 129 [l0, l1, l2, l3, l4, l5, some (.int x), l7, l8, l9, l10, l11, l12] [.int x, v0, v1, v2, v3] m Q := A_iload hB_X11_begin dX11_begin_127 rfl
theorem dX11_begin_129 : decode cX11_begin 129 = .ok (.iload 8, 2) := by decide +kernel
theorem tX11_begin_129 {d : Nat} {l0 l1 l2 l3 l4 l5 l6 l7 l9 l10 l11 l12 : Option Value} {v0 v1 v2 v3 v4 : Value} {x : Int32} {m : jmM} {Q : Option Value → jmM → Prop} : AW d 146 129 [l0, l1, l2, l3, l4, l5, l6, l7, some (.int x), l9, l10, l11, l12] [v0, v1, v2, v3, v4] m Q ↔ AW d 146 131 [l0, l1, l2, l3, l4, l5, l6, l7, some (.int x), l9, l10, l11, l12] [.int x, v0, v1, v2, v3, v4] m Q := A_iload hB_X11_begin dX11_begin_129 rfl
theorem dX11_begin_131 : decode cX11_begin 131 = .ok (.iload 9, 2) := by decide +kernel
theorem tX11_begin_131 {d : Nat} {l0 l1 l2 l3 l4 l5 l6 l7 l8 l10 l11 l12 : Option Value} {v0 v1 v2 v3 v4 v5 : Value} {x : Int32} {m : jmM} {Q : Option Value → jmM → Prop} : AW d 146 131 [l0, l1, l2, l3, l4, l5, l6, l7, l8, some (.int x), l10, l11, l12] [v0, v1, v2, v3, v4, v5] m Q ↔ AW d 146 133 [l0, l1, l2, l3, l4, l5, l6, l7, l8, some (.int x), l10, l11, l12] [.int x, v0, v1, v2, v3, v4, v5] m Q := A_iload hB_X11_begin dX11_begin_131 rfl
theorem dX11_begin_133 : decode cX11_begin 133 = .ok (.invokevirtual 145, 3) := by decide +kernel
theorem tX11_begin_133 {d : Nat} {l0 l1 l2 l3 l4 l5 l6 l7 l8 l9 l10 l11 l12 : Option Value} {y0 y1 y2 y3 y4 y5 : Value} {a : Nat} {m : jmM} {Q : Option Value → jmM → Prop} : AW d 146 133 [l0, l1, l2, l3, l4, l5, l6, l7, l8, l9, l10, l11, l12] [y0, y1, y2, y3, y4, y5, .ref a] m Q ↔ (mS m a).1 = 8 ∧ CC d 119 [.ref a, y5, y4, y3, y2, y1, y0] m (jK d 146 136 [l0, l1, l2, l3, l4, l5, l6, l7, l8, l9, l10, l11, l12] [] Q) := A_callV hB_X11_begin dX11_begin_133 hO_X11_begin fS_11_145 ⟨Nat.le_of_ble_eq_true rfl, Nat.le_of_ble_eq_true rfl⟩ rfl rfl rfl
theorem dX11_begin_136 : decode cX11_begin 136 = .ok (.aload 12, 2) := by decide +kernel
theorem tX11_begin_136 {d : Nat} {l0 l1 l2 l3 l4 l5 l6 l7 l8 l9 l10 l11 : Option Value} {x : Nat} {m : jmM} {Q : Option Value → jmM → Prop} : AW d 146 136 [l0, l1, l2, l3, l4, l5, l6, l7, l8, l9, l10, l11, some (.ref x)] [] m Q ↔ AW d 146 138 [l0, l1, l2, l3, l4, l5, l6, l7, l8, l9, l10, l11, some (.ref x)] [.ref x] m Q := A_aload hB_X11_begin dX11_begin_136 rfl
theorem tX11_begin_136q {d : Nat} {l0 l1 l2 l3 l4 l5 l6 l7 l8 l9 l10 l11 : Option Value} {x : Option Nat} {m : jmM} {Q : Option Value → jmM → Prop} : AW d 146 136 [l0, l1, l2, l3, l4, l5, l6, l7, l8, l9, l10, l11, some (va_rf x)] [] m Q ↔ AW d 146 138 [l0, l1, l2, l3, l4, l5, l6, l7, l8, l9, l10, l11, some (va_rf x)] [va_rf x] m Q := A_aloadq hB_X11_begin dX11_begin_136 rfl
theorem dX11_begin_138 : decode cX11_begin 138 = .ok (.aload_n 0, 1) := by decide +kernel
theorem tX11_begin_138 {d : Nat} {l1 l2 l3 l4 l5 l6 l7 l8 l9 l10 l11 l12 : Option Value} {v0 : Value} {x : Nat} {m : jmM} {Q : Option Value → jmM → Prop} : AW d 146 138 [some (.ref x), l1, l2, l3, l4, l5, l6, l7, l8, l9, l10, l11, l12] [v0] m Q ↔ AW d 146 139 [some (.ref x), l1, l2, l3, l4, l5, l6, l7, l8, l9, l10, l11, l12] [.ref x, v0] m Q := A_aload_n hB_X11_begin dX11_begin_138 rfl
theorem dX11_begin_139 : decode cX11_begin 139 = .ok (.getfield 42, 3) := by decide +kernel
theorem tX11_begin_139 {d : Nat} {l0 l1 l2 l3 l4 l5 l6 l7 l8 l9 l10 l11 l12 : Option Value} {v1 : Value} {a : Nat} {m : jmM} {Q : Option Value → jmM → Prop} : AW d 146 139 [l0, l1, l2, l3, l4, l5, l6, l7, l8, l9, l10, l11, l12] [.ref a, v1] m Q ↔ (mS m a).1 = 11 ∧ AW d 146 142 [l0, l1, l2, l3, l4, l5, l6, l7, l8, l9, l10, l11, l12] [va_rf (mR m a 5), v1] m Q := A_getfield (f := fun m a => va_rf (mR m a 5)) hB_X11_begin dX11_begin_139 hO_X11_begin fF_11_42 rfl
theorem dX11_begin_142 : decode cX11_begin 142 = .ok (.aload_n 0, 1) := by decide +kernel
theorem tX11_begin_142 {d : Nat} {l1 l2 l3 l4 l5 l6 l7 l8 l9 l10 l11 l12 : Option Value} {v0 v1 : Value} {x : Nat} {m : jmM} {Q : Option Value → jmM → Prop} : AW d 146 142 [some (.ref x), l1, l2, l3, l4, l5, l6, l7, l8, l9, l10, l11, l12] [v0, v1] m Q ↔ AW d 146 143 [some (.ref x), l1, l2, l3, l4, l5, l6, l7, l8, l9, l10, l11, l12] [.ref x, v0, v1] m Q := A_aload_n hB_X11_begin dX11_begin_142 rfl
theorem dX11_begin_143 : decode cX11_begin 143 = .ok (.getfield 46, 3) := by decide +kernel
theorem tX11_begin_143 {d : Nat} {l0 l1 l2 l3 l4 l5 l6 l7 l8 l9 l10 l11 l12 : Option Value} {v1 v2 : Value} {a : Nat} {m : jmM} {Q : Option Value → jmM → Prop} : AW d 146 143 [l0, l1, l2, l3, l4, l5, l6, l7, l8, l9, l10, l11, l12] [.ref a, v1, v2] m Q ↔ (mS m a).1 = 11 ∧ AW d 146 146 [l0, l1, l2, l3, l4, l5, l6, l7, l8, l9, l10, l11, l12] [va_rf (mR m a 6), v1, v2] m Q := A_getfield (f := fun m a => va_rf (mR m a 6)) hB_X11_begin dX11_begin_143 hO_X11_begin fF_11_46 rfl
theorem dX11_begin_146 : decode cX11_begin 146 = .ok (.invokevirtual 151, 3) := by decide +kernel
theorem tX11_begin_146 {d : Nat} {l0 l1 l2 l3 l4 l5 l6 l7 l8 l9 l10 l11 l12 : Option Value} {y0 y1 : Value} {a : Nat} {m : jmM} {Q : Option Value → jmM → Prop} : AW d 146 146 [l0, l1, l2, l3, l4, l5, l6, l7, l8, l9, l10, l11, l12] [y0, y1, .ref a] m Q ↔ (mS m a).1 = 8 ∧ CC d 120 [.ref a, y1, y0] m (jK d 146 149 [l0, l1, l2, l3, l4, l5, l6, l7, l8, l9, l10, l11, l12] [] Q) := A_callV hB_X11_begin dX11_begin_146 hO_X11_begin fS_11_151 ⟨Nat.le_of_ble_eq_true rfl, Nat.le_of_ble_eq_true rfl⟩ rfl rfl rfl
theorem dX11_begin_149 : decode cX11_begin 149 = .ok (.aload_n 0, 1) := by decide +kernel
theorem tX11_begin_149 {d : Nat} {l1 l2 l3 l4 l5 l6 l7 l8 l9 l10 l11 l12 : Option Value} {x : Nat} {m : jmM} {Q : Option Value → jmM → Prop} : AW d 146 149 [some (.ref x), l1, l2, l3, l4, l5, l6, l7, l8, l9, l10, l11, l12] [] m Q ↔ AW d 146 150 [some (.ref x), l1, l2, l3, l4, l5, l6, l7, l8, l9, l10, l11, l12] [.ref x] m Q := A_aload_n hB_X11_begin dX11_begin_149 rfl
theorem dX11_begin_150 : decode cX11_begin 150 = .ok (.getfield 56, 3) := by decide +kernel
theorem tX11_begin_150 {d : Nat} {l0 l1 l2 l3 l4 l5 l6 l7 l8 l9 l10 l11 l12 : Option Value} {a : Nat} {m : jmM} {Q : Option Value → jmM → Prop} : AW d 146 150 [l0, l1, l2, l3, l4, l5, l6, l7, l8, l9, l10, l11, l12] [.ref a] m Q ↔ (mS m a).1 = 11 ∧ AW d 146 153 [l0, l1, l2, l3, l4, l5, l6, l7, l8, l9, l10, l11, l12] [va_rf (mR m a 8)] m Q := A_getfield (f := fun m a => va_rf (mR m a 8)) hB_X11_begin dX11_begin_150 hO_X11_begin fF_11_56 rfl
theorem dX11_begin_153 : decode cX11_begin 153 = .ok (.aload 10, 2) := by decide +kernel
theorem tX11_begin_153 {d : Nat} {l0 l1 l2 l3 l4 l5 l6 l7 l8 l9 l11 l12 : Option Value} {v0 : Value} {x : Nat} {m : jmM} {Q : Option Value → jmM → Prop} : AW d 146 153 [l0, l1, l2, l3, l4, l5, l6, l7, l8, l9, some (.ref x), l11, l12] [v0] m Q ↔ AW d 146 155 [l0, l1, l2, l3, l4, l5, l6, l7, l8, l9, some (.ref x), l11, l12] [.ref x, v0] m Q := A_aload hB_X11_begin dX11_begin_153 rfl
theorem tX11_begin_153q {d : Nat} {l0 l1 l2 l3 l4 l5 l6 l7 l8 l9 l11 l12 : Option Value} {v0 : Value} {x : Option Nat} {m : jmM} {Q : Option Value → jmM → Prop} : AW d 146 153 [l0, l1, l2, l3, l4, l5, l6, l7, l8, l9, some (va_rf x), l11, l12] [v0] m Q ↔ AW d 146 155 [l0, l1, l2, l3, l4, l5, l6, l7, l8, l9, some (va_rf x), l11, l12] [va_rf x, v0] m Q := A_aloadq hB_X11_begin dX11_begin_153 rfl
theorem dX11_begin_155 : decode cX11_begin 155 = .ok (.aload 11, 2) := by decide +kernel
theorem tX11_begin_155 {d : Nat} {l0 l1 l2 l3 l4 l5 l6 l7 l8 l9 l10 l12 : Option Value} {v0 v1 : Value} {x : Nat} {m : jmM} {Q : Option Value → jmM → Prop} : AW d 146 155 [l0, l1, l2, l3, l4, l5, l6, l7, l8, l9, l10, some (.ref x), l12] [v0, v1] m Q ↔ AW d 146 157 [l0, l1, l2, l3, l4, l5, l6, l7, l8, l9, l10, some (.ref x), l12] [.ref x, v0, v1] m Q := A_aload hB_X11_begin dX11_begin_155 rfl
theorem tX11_begin_155q {d : Nat} {l0 l1 l2 l3 l4 l5 l6 l7 l8 l9 l10 l12 : Option Value} {v0 v1 : Value} {x : Option Nat} {m : jmM} {Q : Option Value → jmM → Prop} : AW d 146 155 [l0, l1, l2, l3, l4, l5, l6, l7, l8, l9, l10, some (va_rf x), l12] [v0, v1] m Q ↔ AW d 146 157 [l0, l1, l2, l3, l4, l5, l6, l7, l8, l9, l10, some (va_rf x), l12] [va_rf x, v0, v1] m Q := A_aloadq hB_X11_begin dX11_begin_155 rfl
theorem dX11_begin_157 : decode cX11_begin 157 = .ok (.iload 7, 2) := by decide +kernel
theorem tX11_begin_157 {d : Nat} {l0 l1 l2 l3 l4 l5 l6 l8 l9 l10 l11 l12 : Option Value} {v0 v1 v2 : Value} {x : Int32} {m : jmM} {Q : Option Value → jmM → Prop} : AW d 146 157 [l0, l1, l2, l3, l4, l5, l6, some (.int x), l8, l9, l10, l11, l12] [v0, v1, v2] m Q ↔ AW d 146 159 [l0, l1, l2, l3, l4, l5, l6, some (.int x), l8, l9, l10, l11, l12] [.int x, v0, v1, v2] m Q := A_iload hB_X11_begin dX11_begin_157 rfl
theorem dX11_begin_159 : decode cX11_begin 159 = .ok (.invokevirtual 155, 3) := by decide +kernel
theorem tX11_begin_159 {d : Nat} {l0 l1 l2 l3 l4 l5 l6 l7 l8 l9 l10 l11 l12 : Option Value} {y0 y1 y2 : Value} {a : Nat} {m : jmM} {Q : Option Value → jmM → Prop} : AW d 146 159 [l0, l1, l2, l3, l4, l5, l6, l7, l8, l9, l10, l11, l12] [y0, y1, y2, .ref a] m Q ↔ (mS m a).1 = 5 ∧ CC d 48 [.ref a, y2, y1, y0] m (jK d 146 162 [l0, l1, l2, l3, l4, l5, l6, l7, l8, l9, l10, l11, l12] [] Q) := A_callV hB_X11_begin dX11_begin_159 hO_X11_begin fS_11_155 ⟨Nat.le_of_ble_eq_true rfl, Nat.le_of_ble_eq_true rfl⟩ rfl rfl rfl
theorem dX11_begin_162 : decode cX11_begin 162 = .ok (.iconst 1, 1) := by decide +kernel
theorem tX11_begin_162 {d : Nat} {l0 l1 l2 l3 l4 l5 l6 l7 l8 l9 l10 l11 l12 : Option Value} {m : jmM} {Q : Option Value → jmM → Prop} : AW d 146 162 [l0, l1, l2, l3, l4, l5, l6, l7, l8, l9, l10, l11, l12] [] m Q ↔ AW d 146 163 [l0, l1, l2, l3, l4, l5, l6, l7, l8, l9, l10, l11, l12] [.int 1] m Q := A_iconst hB_X11_begin dX11_begin_162 (by decide)
theorem dX11_begin_163 : decode cX11_begin 163 = .ok (.ireturn, 1) := by decide +kernel
theorem tX11_begin_163 {d : Nat} {l0 l1 l2 l3 l4 l5 l6 l7 l8 l9 l10 l11 l12 : Option Value} {x : Int32} {m : jmM} {Q : Option Value → jmM → Prop} : AW d 146 163 [l0, l1, l2, l3, l4, l5, l6, l7, l8, l9, l10, l11, l12] [.int x] m Q ↔ jBool x ∧ Q (some (.int x)) m := A_zreturn hB_X11_begin dX11_begin_163 hR_X11_begin
theorem hB_X11_minds : jB 147 = cX11_minds := rfl
theorem hO_X11_minds : jO 147 = 11 := rfl
theorem hR_X11_minds : jRt 147 = (some .boolean) := rfl
theorem nX11_minds (d : Nat) (x0 : Nat) (x1 : Int32) (m : jmM) (Q : Option Value → jmM → Prop) : CC (d + 1) 147 [.ref x0, .int x1] m Q ↔ AW d 147 0 [some (.ref x0), some (.int x1), none] [] m Q := CC_body (Nat.le_of_ble_eq_true rfl)
theorem dX11_minds_0 : decode cX11_minds 0 = .ok (.aload_n 0, 1) := by decide +kernel
theorem tX11_minds_0 {d : Nat} {l1 l2 : Option Value} {x : Nat} {m : jmM} {Q : Option Value → jmM → Prop} : AW d 147 0 [some (.ref x), l1, l2] [] m Q ↔ AW d 147 1 [some (.ref x), l1, l2] [.ref x] m Q := A_aload_n hB_X11_minds dX11_minds_0 rfl
theorem dX11_minds_1 : decode cX11_minds 1 = .ok (.getfield 32, 3) := by decide +kernel
theorem tX11_minds_1 {d : Nat} {l0 l1 l2 : Option Value} {a : Nat} {m : jmM} {Q : Option Value → jmM → Prop} : AW d 147 1 [l0, l1, l2] [.ref a] m Q ↔ (mS m a).1 = 11 ∧ AW d 147 4 [l0, l1, l2] [va_rf (mR m a 3)] m Q := A_getfield (f := fun m a => va_rf (mR m a 3)) hB_X11_minds dX11_minds_1 hO_X11_minds fF_11_32 rfl
theorem dX11_minds_4 : decode cX11_minds 4 = .ok (.iload_n 1, 1) := by decide +kernel
theorem tX11_minds_4 {d : Nat} {l0 l2 : Option Value} {v0 : Value} {x : Int32} {m : jmM} {Q : Option Value → jmM → Prop} : AW d 147 4 [l0, some (.int x), l2] [v0] m Q ↔ AW d 147 5 [l0, some (.int x), l2] [.int x, v0] m Q := A_iload_n hB_X11_minds dX11_minds_4 rfl
theorem dX11_minds_5 : decode cX11_minds 5 = .ok (.invokevirtual 136, 3) := by decide +kernel
theorem tX11_minds_5 {d : Nat} {l0 l1 l2 : Option Value} {y0 : Value} {a : Nat} {m : jmM} {Q : Option Value → jmM → Prop} : AW d 147 5 [l0, l1, l2] [y0, .ref a] m Q ↔ (mS m a).1 = 4 ∧ CC d 45 [.ref a, y0] m (jK d 147 8 [l0, l1, l2] [] Q) := A_callV hB_X11_minds dX11_minds_5 hO_X11_minds fS_11_136 ⟨Nat.le_of_ble_eq_true rfl, Nat.le_of_ble_eq_true rfl⟩ rfl rfl rfl
theorem dX11_minds_8 : decode cX11_minds 8 = .ok (.astore_n 2, 1) := by decide +kernel
theorem tX11_minds_8 {d : Nat} {l0 l1 l2 : Option Value} {x : Nat} {m : jmM} {Q : Option Value → jmM → Prop} : AW d 147 8 [l0, l1, l2] [.ref x] m Q ↔ AW d 147 9 [l0, jc1 l1, some (.ref x)] [] m Q := A_astore_n hB_X11_minds dX11_minds_8 (Nat.le_of_ble_eq_true rfl) rfl
theorem tX11_minds_8q {d : Nat} {l0 l1 l2 : Option Value} {x : Option Nat} {m : jmM} {Q : Option Value → jmM → Prop} : AW d 147 8 [l0, l1, l2] [va_rf x] m Q ↔ AW d 147 9 [l0, jc1 l1, some (va_rf x)] [] m Q := A_astore_nq hB_X11_minds dX11_minds_8 (Nat.le_of_ble_eq_true rfl) rfl
theorem dX11_minds_9 : decode cX11_minds 9 = .ok (.aload_n 2, 1) := by decide +kernel
theorem tX11_minds_9 {d : Nat} {l0 l1 : Option Value} {x : Nat} {m : jmM} {Q : Option Value → jmM → Prop} : AW d 147 9 [l0, l1, some (.ref x)] [] m Q ↔ AW d 147 10 [l0, l1, some (.ref x)] [.ref x] m Q := A_aload_n hB_X11_minds dX11_minds_9 rfl
theorem tX11_minds_9q {d : Nat} {l0 l1 : Option Value} {x : Option Nat} {m : jmM} {Q : Option Value → jmM → Prop} : AW d 147 9 [l0, l1, some (va_rf x)] [] m Q ↔ AW d 147 10 [l0, l1, some (va_rf x)] [va_rf x] m Q := A_aload_nq hB_X11_minds dX11_minds_9 rfl
theorem dX11_minds_10 : decode cX11_minds 10 = .ok (.ifnull 13, 3) := by decide +kernel
theorem tX11_minds_10 {d : Nat} {l0 l1 l2 : Option Value} {x : Option Nat} {m : jmM} {Q : Option Value → jmM → Prop} : AW d 147 10 [l0, l1, l2] [va_rf x] m Q ↔ if x = none then AW d 147 23 [l0, l1, l2] [] m Q else AW d 147 13 [l0, l1, l2] [] m Q := A_ifnull hB_X11_minds dX11_minds_10 (by decide)
theorem tX11_minds_10r {d : Nat} {l0 l1 l2 : Option Value} {x : Nat} {m : jmM} {Q : Option Value → jmM → Prop} : AW d 147 10 [l0, l1, l2] [.ref x] m Q ↔ AW d 147 13 [l0, l1, l2] [] m Q := A_ifnull_r hB_X11_minds dX11_minds_10 (t := 23) (by decide)
theorem dX11_minds_13 : decode cX11_minds 13 = .ok (.aload_n 0, 1) := by decide +kernel
theorem tX11_minds_13 {d : Nat} {l1 l2 : Option Value} {x : Nat} {m : jmM} {Q : Option Value → jmM → Prop} : AW d 147 13 [some (.ref x), l1, l2] [] m Q ↔ AW d 147 14 [some (.ref x), l1, l2] [.ref x] m Q := A_aload_n hB_X11_minds dX11_minds_13 rfl
theorem dX11_minds_14 : decode cX11_minds 14 = .ok (.getfield 56, 3) := by decide +kernel
theorem tX11_minds_14 {d : Nat} {l0 l1 l2 : Option Value} {a : Nat} {m : jmM} {Q : Option Value → jmM → Prop} : AW d 147 14 [l0, l1, l2] [.ref a] m Q ↔ (mS m a).1 = 11 ∧ AW d 147 17 [l0, l1, l2] [va_rf (mR m a 8)] m Q := A_getfield (f := fun m a => va_rf (mR m a 8)) hB_X11_minds dX11_minds_14 hO_X11_minds fF_11_56 rfl
theorem dX11_minds_17 : decode cX11_minds 17 = .ok (.invokevirtual 159, 3) := by decide +kernel
theorem tX11_minds_17 {d : Nat} {l0 l1 l2 : Option Value} {a : Nat} {m : jmM} {Q : Option Value → jmM → Prop} : AW d 147 17 [l0, l1, l2] [.ref a] m Q ↔ (mS m a).1 = 5 ∧ CC d 73 [.ref a] m (jK d 147 20 [l0, l1, l2] [] Q) := A_callV hB_X11_minds dX11_minds_17 hO_X11_minds fS_11_159 ⟨Nat.le_of_ble_eq_true rfl, Nat.le_of_ble_eq_true rfl⟩ rfl rfl rfl
theorem dX11_minds_20 : decode cX11_minds 20 = .ok (.ifCond .ne 5, 3) := by decide +kernel
theorem tX11_minds_20 {d : Nat} {l0 l1 l2 : Option Value} {x : Int32} {m : jmM} {Q : Option Value → jmM → Prop} : AW d 147 20 [l0, l1, l2] [.int x] m Q ↔ if x = 0 then AW d 147 23 [l0, l1, l2] [] m Q else AW d 147 25 [l0, l1, l2] [] m Q := A_if_ne hB_X11_minds dX11_minds_20 (by decide)
theorem dX11_minds_23 : decode cX11_minds 23 = .ok (.iconst 0, 1) := by decide +kernel
theorem tX11_minds_23 {d : Nat} {l0 l1 l2 : Option Value} {m : jmM} {Q : Option Value → jmM → Prop} : AW d 147 23 [l0, l1, l2] [] m Q ↔ AW d 147 24 [l0, l1, l2] [.int 0] m Q := A_iconst hB_X11_minds dX11_minds_23 (by decide)
theorem dX11_minds_24 : decode cX11_minds 24 = .ok (.ireturn, 1) := by decide +kernel
theorem tX11_minds_24 {d : Nat} {l0 l1 l2 : Option Value} {x : Int32} {m : jmM} {Q : Option Value → jmM → Prop} : AW d 147 24 [l0, l1, l2] [.int x] m Q ↔ jBool x ∧ Q (some (.int x)) m := A_zreturn hB_X11_minds dX11_minds_24 hR_X11_minds
theorem dX11_minds_25 : decode cX11_minds 25 = .ok (.aload_n 0, 1) := by decide +kernel
theorem tX11_minds_25 {d : Nat} {l1 l2 : Option Value} {x : Nat} {m : jmM} {Q : Option Value → jmM → Prop} : AW d 147 25 [some (.ref x), l1, l2] [] m Q ↔ AW d 147 26 [some (.ref x), l1, l2] [.ref x] m Q := A_aload_n hB_X11_minds dX11_minds_25 rfl
theorem dX11_minds_26 : decode cX11_minds 26 = .ok (.getfield 56, 3) := by decide +kernel
theorem tX11_minds_26 {d : Nat} {l0 l1 l2 : Option Value} {a : Nat} {m : jmM} {Q : Option Value → jmM → Prop} : AW d 147 26 [l0, l1, l2] [.ref a] m Q ↔ (mS m a).1 = 11 ∧ AW d 147 29 [l0, l1, l2] [va_rf (mR m a 8)] m Q := A_getfield (f := fun m a => va_rf (mR m a 8)) hB_X11_minds dX11_minds_26 hO_X11_minds fF_11_56 rfl
theorem dX11_minds_29 : decode cX11_minds 29 = .ok (.aload_n 2, 1) := by decide +kernel
theorem tX11_minds_29 {d : Nat} {l0 l1 : Option Value} {v0 : Value} {x : Nat} {m : jmM} {Q : Option Value → jmM → Prop} : AW d 147 29 [l0, l1, some (.ref x)] [v0] m Q ↔ AW d 147 30 [l0, l1, some (.ref x)] [.ref x, v0] m Q := A_aload_n hB_X11_minds dX11_minds_29 rfl
theorem tX11_minds_29q {d : Nat} {l0 l1 : Option Value} {v0 : Value} {x : Option Nat} {m : jmM} {Q : Option Value → jmM → Prop} : AW d 147 29 [l0, l1, some (va_rf x)] [v0] m Q ↔ AW d 147 30 [l0, l1, some (va_rf x)] [va_rf x, v0] m Q := A_aload_nq hB_X11_minds dX11_minds_29 rfl
theorem dX11_minds_30 : decode cX11_minds 30 = .ok (.invokevirtual 162, 3) := by decide +kernel
theorem tX11_minds_30 {d : Nat} {l0 l1 l2 : Option Value} {y0 : Value} {a : Nat} {m : jmM} {Q : Option Value → jmM → Prop} : AW d 147 30 [l0, l1, l2] [y0, .ref a] m Q ↔ (mS m a).1 = 5 ∧ CC d 50 [.ref a, y0] m (jK d 147 33 [l0, l1, l2] [] Q) := A_callV hB_X11_minds dX11_minds_30 hO_X11_minds fS_11_162 ⟨Nat.le_of_ble_eq_true rfl, Nat.le_of_ble_eq_true rfl⟩ rfl rfl rfl
theorem dX11_minds_33 : decode cX11_minds 33 = .ok (.iconst 1, 1) := by decide +kernel
theorem tX11_minds_33 {d : Nat} {l0 l1 l2 : Option Value} {m : jmM} {Q : Option Value → jmM → Prop} : AW d 147 33 [l0, l1, l2] [] m Q ↔ AW d 147 34 [l0, l1, l2] [.int 1] m Q := A_iconst hB_X11_minds dX11_minds_33 (by decide)
theorem dX11_minds_34 : decode cX11_minds 34 = .ok (.ireturn, 1) := by decide +kernel
theorem tX11_minds_34 {d : Nat} {l0 l1 l2 : Option Value} {x : Int32} {m : jmM} {Q : Option Value → jmM → Prop} : AW d 147 34 [l0, l1, l2] [.int x] m Q ↔ jBool x ∧ Q (some (.int x)) m := A_zreturn hB_X11_minds dX11_minds_34 hR_X11_minds
theorem hB_X11_grow : jB 148 = cX11_grow := rfl
theorem hO_X11_grow : jO 148 = 11 := rfl
theorem hR_X11_grow : jRt 148 = (some .int) := rfl
theorem nX11_grow (d : Nat) (x0 : Nat) (x1 : Int32) (m : jmM) (Q : Option Value → jmM → Prop) : CC (d + 1) 148 [.ref x0, .int x1] m Q ↔ AW d 148 0 [some (.ref x0), some (.int x1)] [] m Q := CC_body (Nat.le_of_ble_eq_true rfl)
theorem dX11_grow_0 : decode cX11_grow 0 = .ok (.aload_n 0, 1) := by decide +kernel
theorem tX11_grow_0 {d : Nat} {l1 : Option Value} {x : Nat} {m : jmM} {Q : Option Value → jmM → Prop} : AW d 148 0 [some (.ref x), l1] [] m Q ↔ AW d 148 1 [some (.ref x), l1] [.ref x] m Q := A_aload_n hB_X11_grow dX11_grow_0 rfl
theorem dX11_grow_1 : decode cX11_grow 1 = .ok (.getfield 56, 3) := by decide +kernel
theorem tX11_grow_1 {d : Nat} {l0 l1 : Option Value} {a : Nat} {m : jmM} {Q : Option Value → jmM → Prop} : AW d 148 1 [l0, l1] [.ref a] m Q ↔ (mS m a).1 = 11 ∧ AW d 148 4 [l0, l1] [va_rf (mR m a 8)] m Q := A_getfield (f := fun m a => va_rf (mR m a 8)) hB_X11_grow dX11_grow_1 hO_X11_grow fF_11_56 rfl
theorem dX11_grow_4 : decode cX11_grow 4 = .ok (.invokevirtual 159, 3) := by decide +kernel
theorem tX11_grow_4 {d : Nat} {l0 l1 : Option Value} {a : Nat} {m : jmM} {Q : Option Value → jmM → Prop} : AW d 148 4 [l0, l1] [.ref a] m Q ↔ (mS m a).1 = 5 ∧ CC d 73 [.ref a] m (jK d 148 7 [l0, l1] [] Q) := A_callV hB_X11_grow dX11_grow_4 hO_X11_grow fS_11_159 ⟨Nat.le_of_ble_eq_true rfl, Nat.le_of_ble_eq_true rfl⟩ rfl rfl rfl
theorem dX11_grow_7 : decode cX11_grow 7 = .ok (.ifCond .eq 14, 3) := by decide +kernel
theorem tX11_grow_7 {d : Nat} {l0 l1 : Option Value} {x : Int32} {m : jmM} {Q : Option Value → jmM → Prop} : AW d 148 7 [l0, l1] [.int x] m Q ↔ if x = 0 then AW d 148 21 [l0, l1] [] m Q else AW d 148 10 [l0, l1] [] m Q := A_if_eq hB_X11_grow dX11_grow_7 (by decide)
theorem dX11_grow_10 : decode cX11_grow 10 = .ok (.iload_n 1, 1) := by decide +kernel
theorem tX11_grow_10 {d : Nat} {l0 : Option Value} {x : Int32} {m : jmM} {Q : Option Value → jmM → Prop} : AW d 148 10 [l0, some (.int x)] [] m Q ↔ AW d 148 11 [l0, some (.int x)] [.int x] m Q := A_iload_n hB_X11_grow dX11_grow_10 rfl
theorem dX11_grow_11 : decode cX11_grow 11 = .ok (.iconst 0, 1) := by decide +kernel
theorem tX11_grow_11 {d : Nat} {l0 l1 : Option Value} {v0 : Value} {m : jmM} {Q : Option Value → jmM → Prop} : AW d 148 11 [l0, l1] [v0] m Q ↔ AW d 148 12 [l0, l1] [.int 0, v0] m Q := A_iconst hB_X11_grow dX11_grow_11 (by decide)
theorem dX11_grow_12 : decode cX11_grow 12 = .ok (.sipush 600, 3) := by decide +kernel
theorem tX11_grow_12 {d : Nat} {l0 l1 : Option Value} {v0 v1 : Value} {m : jmM} {Q : Option Value → jmM → Prop} : AW d 148 12 [l0, l1] [v0, v1] m Q ↔ AW d 148 15 [l0, l1] [.int 600, v0, v1] m Q := A_sipush hB_X11_grow dX11_grow_12 rfl
theorem dX11_grow_15 : decode cX11_grow 15 = .ok (.invokestatic 128, 3) := by decide +kernel
theorem tX11_grow_15 {d : Nat} {l0 l1 : Option Value} {y0 y1 y2 : Value} {m : jmM} {Q : Option Value → jmM → Prop} : AW d 148 15 [l0, l1] [y0, y1, y2] m Q ↔ CC d 183 [y2, y1, y0] m (jK d 148 18 [l0, l1] [] Q) := A_callS0 hB_X11_grow dX11_grow_15 hO_X11_grow fS_11_128 ⟨Nat.le_of_ble_eq_true rfl, Nat.le_of_ble_eq_true rfl⟩ rfl rfl
theorem dX11_grow_18 : decode cX11_grow 18 = .ok (.ifCond .ne 5, 3) := by decide +kernel
theorem tX11_grow_18 {d : Nat} {l0 l1 : Option Value} {x : Int32} {m : jmM} {Q : Option Value → jmM → Prop} : AW d 148 18 [l0, l1] [.int x] m Q ↔ if x = 0 then AW d 148 21 [l0, l1] [] m Q else AW d 148 23 [l0, l1] [] m Q := A_if_ne hB_X11_grow dX11_grow_18 (by decide)
theorem dX11_grow_21 : decode cX11_grow 21 = .ok (.iconst (-1), 1) := by decide +kernel
theorem tX11_grow_21 {d : Nat} {l0 l1 : Option Value} {m : jmM} {Q : Option Value → jmM → Prop} : AW d 148 21 [l0, l1] [] m Q ↔ AW d 148 22 [l0, l1] [.int (-1)] m Q := A_iconst hB_X11_grow dX11_grow_21 (by decide)
theorem dX11_grow_22 : decode cX11_grow 22 = .ok (.ireturn, 1) := by decide +kernel
theorem tX11_grow_22 {d : Nat} {l0 l1 : Option Value} {x : Int32} {m : jmM} {Q : Option Value → jmM → Prop} : AW d 148 22 [l0, l1] [.int x] m Q ↔ Q (some (.int x)) m := A_ireturn hB_X11_grow dX11_grow_22 hR_X11_grow
theorem dX11_grow_23 : decode cX11_grow 23 = .ok (.aload_n 0, 1) := by decide +kernel
theorem tX11_grow_23 {d : Nat} {l1 : Option Value} {x : Nat} {m : jmM} {Q : Option Value → jmM → Prop} : AW d 148 23 [some (.ref x), l1] [] m Q ↔ AW d 148 24 [some (.ref x), l1] [.ref x] m Q := A_aload_n hB_X11_grow dX11_grow_23 rfl
theorem dX11_grow_24 : decode cX11_grow 24 = .ok (.getfield 56, 3) := by decide +kernel
theorem tX11_grow_24 {d : Nat} {l0 l1 : Option Value} {a : Nat} {m : jmM} {Q : Option Value → jmM → Prop} : AW d 148 24 [l0, l1] [.ref a] m Q ↔ (mS m a).1 = 11 ∧ AW d 148 27 [l0, l1] [va_rf (mR m a 8)] m Q := A_getfield (f := fun m a => va_rf (mR m a 8)) hB_X11_grow dX11_grow_24 hO_X11_grow fF_11_56 rfl
theorem dX11_grow_27 : decode cX11_grow 27 = .ok (.iload_n 1, 1) := by decide +kernel
theorem tX11_grow_27 {d : Nat} {l0 : Option Value} {v0 : Value} {x : Int32} {m : jmM} {Q : Option Value → jmM → Prop} : AW d 148 27 [l0, some (.int x)] [v0] m Q ↔ AW d 148 28 [l0, some (.int x)] [.int x, v0] m Q := A_iload_n hB_X11_grow dX11_grow_27 rfl
theorem dX11_grow_28 : decode cX11_grow 28 = .ok (.aload_n 0, 1) := by decide +kernel
theorem tX11_grow_28 {d : Nat} {l1 : Option Value} {v0 v1 : Value} {x : Nat} {m : jmM} {Q : Option Value → jmM → Prop} : AW d 148 28 [some (.ref x), l1] [v0, v1] m Q ↔ AW d 148 29 [some (.ref x), l1] [.ref x, v0, v1] m Q := A_aload_n hB_X11_grow dX11_grow_28 rfl
theorem dX11_grow_29 : decode cX11_grow 29 = .ok (.getfield 38, 3) := by decide +kernel
theorem tX11_grow_29 {d : Nat} {l0 l1 : Option Value} {v1 v2 : Value} {a : Nat} {m : jmM} {Q : Option Value → jmM → Prop} : AW d 148 29 [l0, l1] [.ref a, v1, v2] m Q ↔ (mS m a).1 = 11 ∧ AW d 148 32 [l0, l1] [va_rf (mR m a 4), v1, v2] m Q := A_getfield (f := fun m a => va_rf (mR m a 4)) hB_X11_grow dX11_grow_29 hO_X11_grow fF_11_38 rfl
theorem dX11_grow_32 : decode cX11_grow 32 = .ok (.invokevirtual 166, 3) := by decide +kernel
theorem tX11_grow_32 {d : Nat} {l0 l1 : Option Value} {y0 y1 : Value} {a : Nat} {m : jmM} {Q : Option Value → jmM → Prop} : AW d 148 32 [l0, l1] [y0, y1, .ref a] m Q ↔ (mS m a).1 = 5 ∧ CC d 53 [.ref a, y1, y0] m (jK d 148 35 [l0, l1] [] Q) := A_callV hB_X11_grow dX11_grow_32 hO_X11_grow fS_11_166 ⟨Nat.le_of_ble_eq_true rfl, Nat.le_of_ble_eq_true rfl⟩ rfl rfl rfl
theorem dX11_grow_35 : decode cX11_grow 35 = .ok (.ireturn, 1) := by decide +kernel
theorem tX11_grow_35 {d : Nat} {l0 l1 : Option Value} {x : Int32} {m : jmM} {Q : Option Value → jmM → Prop} : AW d 148 35 [l0, l1] [.int x] m Q ↔ Q (some (.int x)) m := A_ireturn hB_X11_grow dX11_grow_35 hR_X11_grow
theorem hB_X11_state : jB 149 = cX11_state := rfl
theorem hO_X11_state : jO 149 = 11 := rfl
theorem hR_X11_state : jRt 149 = (some .int) := rfl
theorem nX11_state (d : Nat) (x0 : Nat) (m : jmM) (Q : Option Value → jmM → Prop) : CC (d + 1) 149 [.ref x0] m Q ↔ AW d 149 0 [some (.ref x0)] [] m Q := CC_body (Nat.le_of_ble_eq_true rfl)
theorem dX11_state_0 : decode cX11_state 0 = .ok (.aload_n 0, 1) := by decide +kernel
theorem tX11_state_0 {d : Nat} {x : Nat} {m : jmM} {Q : Option Value → jmM → Prop} : AW d 149 0 [some (.ref x)] [] m Q ↔ AW d 149 1 [some (.ref x)] [.ref x] m Q := A_aload_n hB_X11_state dX11_state_0 rfl
theorem dX11_state_1 : decode cX11_state 1 = .ok (.getfield 56, 3) := by decide +kernel
theorem tX11_state_1 {d : Nat} {l0 : Option Value} {a : Nat} {m : jmM} {Q : Option Value → jmM → Prop} : AW d 149 1 [l0] [.ref a] m Q ↔ (mS m a).1 = 11 ∧ AW d 149 4 [l0] [va_rf (mR m a 8)] m Q := A_getfield (f := fun m a => va_rf (mR m a 8)) hB_X11_state dX11_state_1 hO_X11_state fF_11_56 rfl
theorem dX11_state_4 : decode cX11_state 4 = .ok (.invokevirtual 159, 3) := by decide +kernel
theorem tX11_state_4 {d : Nat} {l0 : Option Value} {a : Nat} {m : jmM} {Q : Option Value → jmM → Prop} : AW d 149 4 [l0] [.ref a] m Q ↔ (mS m a).1 = 5 ∧ CC d 73 [.ref a] m (jK d 149 7 [l0] [] Q) := A_callV hB_X11_state dX11_state_4 hO_X11_state fS_11_159 ⟨Nat.le_of_ble_eq_true rfl, Nat.le_of_ble_eq_true rfl⟩ rfl rfl rfl
theorem dX11_state_7 : decode cX11_state 7 = .ok (.ireturn, 1) := by decide +kernel
theorem tX11_state_7 {d : Nat} {l0 : Option Value} {x : Int32} {m : jmM} {Q : Option Value → jmM → Prop} : AW d 149 7 [l0] [.int x] m Q ↔ Q (some (.int x)) m := A_ireturn hB_X11_state dX11_state_7 hR_X11_state
theorem hB_X11_count : jB 150 = cX11_count := rfl
theorem hO_X11_count : jO 150 = 11 := rfl
theorem hR_X11_count : jRt 150 = (some .int) := rfl
theorem nX11_count (d : Nat) (x0 : Nat) (x1 : Int32) (m : jmM) (Q : Option Value → jmM → Prop) : CC (d + 1) 150 [.ref x0, .int x1] m Q ↔ AW d 150 0 [some (.ref x0), some (.int x1)] [] m Q := CC_body (Nat.le_of_ble_eq_true rfl)
theorem dX11_count_0 : decode cX11_count 0 = .ok (.iload_n 1, 1) := by decide +kernel
theorem tX11_count_0 {d : Nat} {l0 : Option Value} {x : Int32} {m : jmM} {Q : Option Value → jmM → Prop} : AW d 150 0 [l0, some (.int x)] [] m Q ↔ AW d 150 1 [l0, some (.int x)] [.int x] m Q := A_iload_n hB_X11_count dX11_count_0 rfl
theorem dX11_count_1 : decode cX11_count 1 = .ok (.tableswitch 165 0 12 #[67, 75, 83, 91, 99, 107, 115, 123, 131, 139, 144, 152, 160], 67) := by decide +kernel
theorem tX11_count_1 {d : Nat} {l0 l1 : Option Value} {x : Int32} {m : jmM} {Q : Option Value → jmM → Prop} : AW d 150 1 [l0, l1] [.int x] m Q ↔ if x = 0 then AW d 150 68 [l0, l1] [] m Q else if x = 1 then AW d 150 76 [l0, l1] [] m Q else if x = 2 then AW d 150 84 [l0, l1] [] m Q else if x = 3 then AW d 150 92 [l0, l1] [] m Q else if x = 4 then AW d 150 100 [l0, l1] [] m Q else if x = 5 then AW d 150 108 [l0, l1] [] m Q else if x = 6 then AW d 150 116 [l0, l1] [] m Q else if x = 7 then AW d 150 124 [l0, l1] [] m Q else if x = 8 then AW d 150 132 [l0, l1] [] m Q else if x = 9 then AW d 150 140 [l0, l1] [] m Q else if x = 10 then AW d 150 145 [l0, l1] [] m Q else if x = 11 then AW d 150 153 [l0, l1] [] m Q else if x = 12 then AW d 150 161 [l0, l1] [] m Q else AW d 150 166 [l0, l1] [] m Q := by
  by_cases h0 : x = 0
  · subst h0; rw [if_pos rfl]; exact A_switch hB_X11_count dX11_count_1 (by decide) (by decide)
  rw [if_neg h0]
  have e0 := i32_ne (n := 0) (by decide) h0
  by_cases h1 : x = 1
  · subst h1; rw [if_pos rfl]; exact A_switch hB_X11_count dX11_count_1 (by decide) (by decide)
  rw [if_neg h1]
  have e1 := i32_ne (n := 1) (by decide) h1
  by_cases h2 : x = 2
  · subst h2; rw [if_pos rfl]; exact A_switch hB_X11_count dX11_count_1 (by decide) (by decide)
  rw [if_neg h2]
  have e2 := i32_ne (n := 2) (by decide) h2
  by_cases h3 : x = 3
  · subst h3; rw [if_pos rfl]; exact A_switch hB_X11_count dX11_count_1 (by decide) (by decide)
  rw [if_neg h3]
  have e3 := i32_ne (n := 3) (by decide) h3
  by_cases h4 : x = 4
  · subst h4; rw [if_pos rfl]; exact A_switch hB_X11_count dX11_count_1 (by decide) (by decide)
  rw [if_neg h4]
  have e4 := i32_ne (n := 4) (by decide) h4
  by_cases h5 : x = 5
  · subst h5; rw [if_pos rfl]; exact A_switch hB_X11_count dX11_count_1 (by decide) (by decide)
  rw [if_neg h5]
  have e5 := i32_ne (n := 5) (by decide) h5
  by_cases h6 : x = 6
  · subst h6; rw [if_pos rfl]; exact A_switch hB_X11_count dX11_count_1 (by decide) (by decide)
  rw [if_neg h6]
  have e6 := i32_ne (n := 6) (by decide) h6
  by_cases h7 : x = 7
  · subst h7; rw [if_pos rfl]; exact A_switch hB_X11_count dX11_count_1 (by decide) (by decide)
  rw [if_neg h7]
  have e7 := i32_ne (n := 7) (by decide) h7
  by_cases h8 : x = 8
  · subst h8; rw [if_pos rfl]; exact A_switch hB_X11_count dX11_count_1 (by decide) (by decide)
  rw [if_neg h8]
  have e8 := i32_ne (n := 8) (by decide) h8
  by_cases h9 : x = 9
  · subst h9; rw [if_pos rfl]; exact A_switch hB_X11_count dX11_count_1 (by decide) (by decide)
  rw [if_neg h9]
  have e9 := i32_ne (n := 9) (by decide) h9
  by_cases h10 : x = 10
  · subst h10; rw [if_pos rfl]; exact A_switch hB_X11_count dX11_count_1 (by decide) (by decide)
  rw [if_neg h10]
  have e10 := i32_ne (n := 10) (by decide) h10
  by_cases h11 : x = 11
  · subst h11; rw [if_pos rfl]; exact A_switch hB_X11_count dX11_count_1 (by decide) (by decide)
  rw [if_neg h11]
  have e11 := i32_ne (n := 11) (by decide) h11
  by_cases h12 : x = 12
  · subst h12; rw [if_pos rfl]; exact A_switch hB_X11_count dX11_count_1 (by decide) (by decide)
  rw [if_neg h12]
  have e12 := i32_ne (n := 12) (by decide) h12
  exact A_switch hB_X11_count dX11_count_1 (t := 166) (by decide) (by unfold jsw; rw [if_pos (by omega)]; rfl)
theorem dX11_count_68 : decode cX11_count 68 = .ok (.aload_n 0, 1) := by decide +kernel
theorem tX11_count_68 {d : Nat} {l1 : Option Value} {x : Nat} {m : jmM} {Q : Option Value → jmM → Prop} : AW d 150 68 [some (.ref x), l1] [] m Q ↔ AW d 150 69 [some (.ref x), l1] [.ref x] m Q := A_aload_n hB_X11_count dX11_count_68 rfl
theorem dX11_count_69 : decode cX11_count 69 = .ok (.getfield 56, 3) := by decide +kernel
theorem tX11_count_69 {d : Nat} {l0 l1 : Option Value} {a : Nat} {m : jmM} {Q : Option Value → jmM → Prop} : AW d 150 69 [l0, l1] [.ref a] m Q ↔ (mS m a).1 = 11 ∧ AW d 150 72 [l0, l1] [va_rf (mR m a 8)] m Q := A_getfield (f := fun m a => va_rf (mR m a 8)) hB_X11_count dX11_count_69 hO_X11_count fF_11_56 rfl
theorem dX11_count_72 : decode cX11_count 72 = .ok (.invokevirtual 170, 3) := by decide +kernel
theorem tX11_count_72 {d : Nat} {l0 l1 : Option Value} {a : Nat} {m : jmM} {Q : Option Value → jmM → Prop} : AW d 150 72 [l0, l1] [.ref a] m Q ↔ (mS m a).1 = 5 ∧ CC d 74 [.ref a] m (jK d 150 75 [l0, l1] [] Q) := A_callV hB_X11_count dX11_count_72 hO_X11_count fS_11_170 ⟨Nat.le_of_ble_eq_true rfl, Nat.le_of_ble_eq_true rfl⟩ rfl rfl rfl
theorem dX11_count_75 : decode cX11_count 75 = .ok (.ireturn, 1) := by decide +kernel
theorem tX11_count_75 {d : Nat} {l0 l1 : Option Value} {x : Int32} {m : jmM} {Q : Option Value → jmM → Prop} : AW d 150 75 [l0, l1] [.int x] m Q ↔ Q (some (.int x)) m := A_ireturn hB_X11_count dX11_count_75 hR_X11_count
theorem dX11_count_76 : decode cX11_count 76 = .ok (.aload_n 0, 1) := by decide +kernel
theorem tX11_count_76 {d : Nat} {l1 : Option Value} {x : Nat} {m : jmM} {Q : Option Value → jmM → Prop} : AW d 150 76 [some (.ref x), l1] [] m Q ↔ AW d 150 77 [some (.ref x), l1] [.ref x] m Q := A_aload_n hB_X11_count dX11_count_76 rfl
theorem dX11_count_77 : decode cX11_count 77 = .ok (.getfield 56, 3) := by decide +kernel
theorem tX11_count_77 {d : Nat} {l0 l1 : Option Value} {a : Nat} {m : jmM} {Q : Option Value → jmM → Prop} : AW d 150 77 [l0, l1] [.ref a] m Q ↔ (mS m a).1 = 11 ∧ AW d 150 80 [l0, l1] [va_rf (mR m a 8)] m Q := A_getfield (f := fun m a => va_rf (mR m a 8)) hB_X11_count dX11_count_77 hO_X11_count fF_11_56 rfl
theorem dX11_count_80 : decode cX11_count 80 = .ok (.invokevirtual 173, 3) := by decide +kernel
theorem tX11_count_80 {d : Nat} {l0 l1 : Option Value} {a : Nat} {m : jmM} {Q : Option Value → jmM → Prop} : AW d 150 80 [l0, l1] [.ref a] m Q ↔ (mS m a).1 = 5 ∧ CC d 75 [.ref a] m (jK d 150 83 [l0, l1] [] Q) := A_callV hB_X11_count dX11_count_80 hO_X11_count fS_11_173 ⟨Nat.le_of_ble_eq_true rfl, Nat.le_of_ble_eq_true rfl⟩ rfl rfl rfl
theorem dX11_count_83 : decode cX11_count 83 = .ok (.ireturn, 1) := by decide +kernel
theorem tX11_count_83 {d : Nat} {l0 l1 : Option Value} {x : Int32} {m : jmM} {Q : Option Value → jmM → Prop} : AW d 150 83 [l0, l1] [.int x] m Q ↔ Q (some (.int x)) m := A_ireturn hB_X11_count dX11_count_83 hR_X11_count
theorem dX11_count_84 : decode cX11_count 84 = .ok (.aload_n 0, 1) := by decide +kernel
theorem tX11_count_84 {d : Nat} {l1 : Option Value} {x : Nat} {m : jmM} {Q : Option Value → jmM → Prop} : AW d 150 84 [some (.ref x), l1] [] m Q ↔ AW d 150 85 [some (.ref x), l1] [.ref x] m Q := A_aload_n hB_X11_count dX11_count_84 rfl
theorem dX11_count_85 : decode cX11_count 85 = .ok (.getfield 56, 3) := by decide +kernel
theorem tX11_count_85 {d : Nat} {l0 l1 : Option Value} {a : Nat} {m : jmM} {Q : Option Value → jmM → Prop} : AW d 150 85 [l0, l1] [.ref a] m Q ↔ (mS m a).1 = 11 ∧ AW d 150 88 [l0, l1] [va_rf (mR m a 8)] m Q := A_getfield (f := fun m a => va_rf (mR m a 8)) hB_X11_count dX11_count_85 hO_X11_count fF_11_56 rfl
theorem dX11_count_88 : decode cX11_count 88 = .ok (.invokevirtual 176, 3) := by decide +kernel
theorem tX11_count_88 {d : Nat} {l0 l1 : Option Value} {a : Nat} {m : jmM} {Q : Option Value → jmM → Prop} : AW d 150 88 [l0, l1] [.ref a] m Q ↔ (mS m a).1 = 5 ∧ CC d 76 [.ref a] m (jK d 150 91 [l0, l1] [] Q) := A_callV hB_X11_count dX11_count_88 hO_X11_count fS_11_176 ⟨Nat.le_of_ble_eq_true rfl, Nat.le_of_ble_eq_true rfl⟩ rfl rfl rfl
theorem dX11_count_91 : decode cX11_count 91 = .ok (.ireturn, 1) := by decide +kernel
theorem tX11_count_91 {d : Nat} {l0 l1 : Option Value} {x : Int32} {m : jmM} {Q : Option Value → jmM → Prop} : AW d 150 91 [l0, l1] [.int x] m Q ↔ Q (some (.int x)) m := A_ireturn hB_X11_count dX11_count_91 hR_X11_count
theorem dX11_count_92 : decode cX11_count 92 = .ok (.aload_n 0, 1) := by decide +kernel
theorem tX11_count_92 {d : Nat} {l1 : Option Value} {x : Nat} {m : jmM} {Q : Option Value → jmM → Prop} : AW d 150 92 [some (.ref x), l1] [] m Q ↔ AW d 150 93 [some (.ref x), l1] [.ref x] m Q := A_aload_n hB_X11_count dX11_count_92 rfl
theorem dX11_count_93 : decode cX11_count 93 = .ok (.getfield 56, 3) := by decide +kernel
theorem tX11_count_93 {d : Nat} {l0 l1 : Option Value} {a : Nat} {m : jmM} {Q : Option Value → jmM → Prop} : AW d 150 93 [l0, l1] [.ref a] m Q ↔ (mS m a).1 = 11 ∧ AW d 150 96 [l0, l1] [va_rf (mR m a 8)] m Q := A_getfield (f := fun m a => va_rf (mR m a 8)) hB_X11_count dX11_count_93 hO_X11_count fF_11_56 rfl
theorem dX11_count_96 : decode cX11_count 96 = .ok (.invokevirtual 179, 3) := by decide +kernel
theorem tX11_count_96 {d : Nat} {l0 l1 : Option Value} {a : Nat} {m : jmM} {Q : Option Value → jmM → Prop} : AW d 150 96 [l0, l1] [.ref a] m Q ↔ (mS m a).1 = 5 ∧ CC d 77 [.ref a] m (jK d 150 99 [l0, l1] [] Q) := A_callV hB_X11_count dX11_count_96 hO_X11_count fS_11_179 ⟨Nat.le_of_ble_eq_true rfl, Nat.le_of_ble_eq_true rfl⟩ rfl rfl rfl
theorem dX11_count_99 : decode cX11_count 99 = .ok (.ireturn, 1) := by decide +kernel
theorem tX11_count_99 {d : Nat} {l0 l1 : Option Value} {x : Int32} {m : jmM} {Q : Option Value → jmM → Prop} : AW d 150 99 [l0, l1] [.int x] m Q ↔ Q (some (.int x)) m := A_ireturn hB_X11_count dX11_count_99 hR_X11_count
theorem dX11_count_100 : decode cX11_count 100 = .ok (.aload_n 0, 1) := by decide +kernel
theorem tX11_count_100 {d : Nat} {l1 : Option Value} {x : Nat} {m : jmM} {Q : Option Value → jmM → Prop} : AW d 150 100 [some (.ref x), l1] [] m Q ↔ AW d 150 101 [some (.ref x), l1] [.ref x] m Q := A_aload_n hB_X11_count dX11_count_100 rfl
theorem dX11_count_101 : decode cX11_count 101 = .ok (.getfield 56, 3) := by decide +kernel
theorem tX11_count_101 {d : Nat} {l0 l1 : Option Value} {a : Nat} {m : jmM} {Q : Option Value → jmM → Prop} : AW d 150 101 [l0, l1] [.ref a] m Q ↔ (mS m a).1 = 11 ∧ AW d 150 104 [l0, l1] [va_rf (mR m a 8)] m Q := A_getfield (f := fun m a => va_rf (mR m a 8)) hB_X11_count dX11_count_101 hO_X11_count fF_11_56 rfl
theorem dX11_count_104 : decode cX11_count 104 = .ok (.invokevirtual 182, 3) := by decide +kernel
theorem tX11_count_104 {d : Nat} {l0 l1 : Option Value} {a : Nat} {m : jmM} {Q : Option Value → jmM → Prop} : AW d 150 104 [l0, l1] [.ref a] m Q ↔ (mS m a).1 = 5 ∧ CC d 78 [.ref a] m (jK d 150 107 [l0, l1] [] Q) := A_callV hB_X11_count dX11_count_104 hO_X11_count fS_11_182 ⟨Nat.le_of_ble_eq_true rfl, Nat.le_of_ble_eq_true rfl⟩ rfl rfl rfl
theorem dX11_count_107 : decode cX11_count 107 = .ok (.ireturn, 1) := by decide +kernel
theorem tX11_count_107 {d : Nat} {l0 l1 : Option Value} {x : Int32} {m : jmM} {Q : Option Value → jmM → Prop} : AW d 150 107 [l0, l1] [.int x] m Q ↔ Q (some (.int x)) m := A_ireturn hB_X11_count dX11_count_107 hR_X11_count
theorem dX11_count_108 : decode cX11_count 108 = .ok (.aload_n 0, 1) := by decide +kernel
theorem tX11_count_108 {d : Nat} {l1 : Option Value} {x : Nat} {m : jmM} {Q : Option Value → jmM → Prop} : AW d 150 108 [some (.ref x), l1] [] m Q ↔ AW d 150 109 [some (.ref x), l1] [.ref x] m Q := A_aload_n hB_X11_count dX11_count_108 rfl
theorem dX11_count_109 : decode cX11_count 109 = .ok (.getfield 56, 3) := by decide +kernel
theorem tX11_count_109 {d : Nat} {l0 l1 : Option Value} {a : Nat} {m : jmM} {Q : Option Value → jmM → Prop} : AW d 150 109 [l0, l1] [.ref a] m Q ↔ (mS m a).1 = 11 ∧ AW d 150 112 [l0, l1] [va_rf (mR m a 8)] m Q := A_getfield (f := fun m a => va_rf (mR m a 8)) hB_X11_count dX11_count_109 hO_X11_count fF_11_56 rfl
theorem dX11_count_112 : decode cX11_count 112 = .ok (.invokevirtual 185, 3) := by decide +kernel
theorem tX11_count_112 {d : Nat} {l0 l1 : Option Value} {a : Nat} {m : jmM} {Q : Option Value → jmM → Prop} : AW d 150 112 [l0, l1] [.ref a] m Q ↔ (mS m a).1 = 5 ∧ CC d 79 [.ref a] m (jK d 150 115 [l0, l1] [] Q) := A_callV hB_X11_count dX11_count_112 hO_X11_count fS_11_185 ⟨Nat.le_of_ble_eq_true rfl, Nat.le_of_ble_eq_true rfl⟩ rfl rfl rfl
theorem dX11_count_115 : decode cX11_count 115 = .ok (.ireturn, 1) := by decide +kernel
theorem tX11_count_115 {d : Nat} {l0 l1 : Option Value} {x : Int32} {m : jmM} {Q : Option Value → jmM → Prop} : AW d 150 115 [l0, l1] [.int x] m Q ↔ Q (some (.int x)) m := A_ireturn hB_X11_count dX11_count_115 hR_X11_count
theorem dX11_count_116 : decode cX11_count 116 = .ok (.aload_n 0, 1) := by decide +kernel
theorem tX11_count_116 {d : Nat} {l1 : Option Value} {x : Nat} {m : jmM} {Q : Option Value → jmM → Prop} : AW d 150 116 [some (.ref x), l1] [] m Q ↔ AW d 150 117 [some (.ref x), l1] [.ref x] m Q := A_aload_n hB_X11_count dX11_count_116 rfl
theorem dX11_count_117 : decode cX11_count 117 = .ok (.getfield 56, 3) := by decide +kernel
theorem tX11_count_117 {d : Nat} {l0 l1 : Option Value} {a : Nat} {m : jmM} {Q : Option Value → jmM → Prop} : AW d 150 117 [l0, l1] [.ref a] m Q ↔ (mS m a).1 = 11 ∧ AW d 150 120 [l0, l1] [va_rf (mR m a 8)] m Q := A_getfield (f := fun m a => va_rf (mR m a 8)) hB_X11_count dX11_count_117 hO_X11_count fF_11_56 rfl
theorem dX11_count_120 : decode cX11_count 120 = .ok (.invokevirtual 188, 3) := by decide +kernel
theorem tX11_count_120 {d : Nat} {l0 l1 : Option Value} {a : Nat} {m : jmM} {Q : Option Value → jmM → Prop} : AW d 150 120 [l0, l1] [.ref a] m Q ↔ (mS m a).1 = 5 ∧ CC d 80 [.ref a] m (jK d 150 123 [l0, l1] [] Q) := A_callV hB_X11_count dX11_count_120 hO_X11_count fS_11_188 ⟨Nat.le_of_ble_eq_true rfl, Nat.le_of_ble_eq_true rfl⟩ rfl rfl rfl
theorem dX11_count_123 : decode cX11_count 123 = .ok (.ireturn, 1) := by decide +kernel
theorem tX11_count_123 {d : Nat} {l0 l1 : Option Value} {x : Int32} {m : jmM} {Q : Option Value → jmM → Prop} : AW d 150 123 [l0, l1] [.int x] m Q ↔ Q (some (.int x)) m := A_ireturn hB_X11_count dX11_count_123 hR_X11_count
theorem dX11_count_124 : decode cX11_count 124 = .ok (.aload_n 0, 1) := by decide +kernel
theorem tX11_count_124 {d : Nat} {l1 : Option Value} {x : Nat} {m : jmM} {Q : Option Value → jmM → Prop} : AW d 150 124 [some (.ref x), l1] [] m Q ↔ AW d 150 125 [some (.ref x), l1] [.ref x] m Q := A_aload_n hB_X11_count dX11_count_124 rfl
theorem dX11_count_125 : decode cX11_count 125 = .ok (.getfield 28, 3) := by decide +kernel
theorem tX11_count_125 {d : Nat} {l0 l1 : Option Value} {a : Nat} {m : jmM} {Q : Option Value → jmM → Prop} : AW d 150 125 [l0, l1] [.ref a] m Q ↔ (mS m a).1 = 11 ∧ AW d 150 128 [l0, l1] [va_rf (mR m a 2)] m Q := A_getfield (f := fun m a => va_rf (mR m a 2)) hB_X11_count dX11_count_125 hO_X11_count fF_11_28 rfl
theorem dX11_count_128 : decode cX11_count 128 = .ok (.invokevirtual 191, 3) := by decide +kernel
theorem tX11_count_128 {d : Nat} {l0 l1 : Option Value} {a : Nat} {m : jmM} {Q : Option Value → jmM → Prop} : AW d 150 128 [l0, l1] [.ref a] m Q ↔ (mS m a).1 = 4 ∧ CC d 42 [.ref a] m (jK d 150 131 [l0, l1] [] Q) := A_callV hB_X11_count dX11_count_128 hO_X11_count fS_11_191 ⟨Nat.le_of_ble_eq_true rfl, Nat.le_of_ble_eq_true rfl⟩ rfl rfl rfl
theorem dX11_count_131 : decode cX11_count 131 = .ok (.ireturn, 1) := by decide +kernel
theorem tX11_count_131 {d : Nat} {l0 l1 : Option Value} {x : Int32} {m : jmM} {Q : Option Value → jmM → Prop} : AW d 150 131 [l0, l1] [.int x] m Q ↔ Q (some (.int x)) m := A_ireturn hB_X11_count dX11_count_131 hR_X11_count
theorem dX11_count_132 : decode cX11_count 132 = .ok (.aload_n 0, 1) := by decide +kernel
theorem tX11_count_132 {d : Nat} {l1 : Option Value} {x : Nat} {m : jmM} {Q : Option Value → jmM → Prop} : AW d 150 132 [some (.ref x), l1] [] m Q ↔ AW d 150 133 [some (.ref x), l1] [.ref x] m Q := A_aload_n hB_X11_count dX11_count_132 rfl
theorem dX11_count_133 : decode cX11_count 133 = .ok (.getfield 32, 3) := by decide +kernel
theorem tX11_count_133 {d : Nat} {l0 l1 : Option Value} {a : Nat} {m : jmM} {Q : Option Value → jmM → Prop} : AW d 150 133 [l0, l1] [.ref a] m Q ↔ (mS m a).1 = 11 ∧ AW d 150 136 [l0, l1] [va_rf (mR m a 3)] m Q := A_getfield (f := fun m a => va_rf (mR m a 3)) hB_X11_count dX11_count_133 hO_X11_count fF_11_32 rfl
theorem dX11_count_136 : decode cX11_count 136 = .ok (.invokevirtual 191, 3) := by decide +kernel
theorem tX11_count_136 {d : Nat} {l0 l1 : Option Value} {a : Nat} {m : jmM} {Q : Option Value → jmM → Prop} : AW d 150 136 [l0, l1] [.ref a] m Q ↔ (mS m a).1 = 4 ∧ CC d 42 [.ref a] m (jK d 150 139 [l0, l1] [] Q) := A_callV hB_X11_count dX11_count_136 hO_X11_count fS_11_191 ⟨Nat.le_of_ble_eq_true rfl, Nat.le_of_ble_eq_true rfl⟩ rfl rfl rfl
theorem dX11_count_139 : decode cX11_count 139 = .ok (.ireturn, 1) := by decide +kernel
theorem tX11_count_139 {d : Nat} {l0 l1 : Option Value} {x : Int32} {m : jmM} {Q : Option Value → jmM → Prop} : AW d 150 139 [l0, l1] [.int x] m Q ↔ Q (some (.int x)) m := A_ireturn hB_X11_count dX11_count_139 hR_X11_count
theorem dX11_count_140 : decode cX11_count 140 = .ok (.aload_n 0, 1) := by decide +kernel
theorem tX11_count_140 {d : Nat} {l1 : Option Value} {x : Nat} {m : jmM} {Q : Option Value → jmM → Prop} : AW d 150 140 [some (.ref x), l1] [] m Q ↔ AW d 150 141 [some (.ref x), l1] [.ref x] m Q := A_aload_n hB_X11_count dX11_count_140 rfl
theorem dX11_count_141 : decode cX11_count 141 = .ok (.getfield 75, 3) := by decide +kernel
theorem tX11_count_141 {d : Nat} {l0 l1 : Option Value} {a : Nat} {m : jmM} {Q : Option Value → jmM → Prop} : AW d 150 141 [l0, l1] [.ref a] m Q ↔ (mS m a).1 = 11 ∧ AW d 150 144 [l0, l1] [.int (mI m a 12)] m Q := A_getfield (f := fun m a => .int (mI m a 12)) hB_X11_count dX11_count_141 hO_X11_count fF_11_75 rfl
theorem dX11_count_144 : decode cX11_count 144 = .ok (.ireturn, 1) := by decide +kernel
theorem tX11_count_144 {d : Nat} {l0 l1 : Option Value} {x : Int32} {m : jmM} {Q : Option Value → jmM → Prop} : AW d 150 144 [l0, l1] [.int x] m Q ↔ Q (some (.int x)) m := A_ireturn hB_X11_count dX11_count_144 hR_X11_count
theorem dX11_count_145 : decode cX11_count 145 = .ok (.aload_n 0, 1) := by decide +kernel
theorem tX11_count_145 {d : Nat} {l1 : Option Value} {x : Nat} {m : jmM} {Q : Option Value → jmM → Prop} : AW d 150 145 [some (.ref x), l1] [] m Q ↔ AW d 150 146 [some (.ref x), l1] [.ref x] m Q := A_aload_n hB_X11_count dX11_count_145 rfl
theorem dX11_count_146 : decode cX11_count 146 = .ok (.getfield 88, 3) := by decide +kernel
theorem tX11_count_146 {d : Nat} {l0 l1 : Option Value} {a : Nat} {m : jmM} {Q : Option Value → jmM → Prop} : AW d 150 146 [l0, l1] [.ref a] m Q ↔ (mS m a).1 = 11 ∧ AW d 150 149 [l0, l1] [va_rf (mR m a 14)] m Q := A_getfield (f := fun m a => va_rf (mR m a 14)) hB_X11_count dX11_count_146 hO_X11_count fF_11_88 rfl
theorem dX11_count_149 : decode cX11_count 149 = .ok (.invokevirtual 192, 3) := by decide +kernel
theorem tX11_count_149 {d : Nat} {l0 l1 : Option Value} {a : Nat} {m : jmM} {Q : Option Value → jmM → Prop} : AW d 150 149 [l0, l1] [.ref a] m Q ↔ (mS m a).1 = 7 ∧ CC d 113 [.ref a] m (jK d 150 152 [l0, l1] [] Q) := A_callV hB_X11_count dX11_count_149 hO_X11_count fS_11_192 ⟨Nat.le_of_ble_eq_true rfl, Nat.le_of_ble_eq_true rfl⟩ rfl rfl rfl
theorem dX11_count_152 : decode cX11_count 152 = .ok (.ireturn, 1) := by decide +kernel
theorem tX11_count_152 {d : Nat} {l0 l1 : Option Value} {x : Int32} {m : jmM} {Q : Option Value → jmM → Prop} : AW d 150 152 [l0, l1] [.int x] m Q ↔ Q (some (.int x)) m := A_ireturn hB_X11_count dX11_count_152 hR_X11_count
theorem dX11_count_153 : decode cX11_count 153 = .ok (.aload_n 0, 1) := by decide +kernel
theorem tX11_count_153 {d : Nat} {l1 : Option Value} {x : Nat} {m : jmM} {Q : Option Value → jmM → Prop} : AW d 150 153 [some (.ref x), l1] [] m Q ↔ AW d 150 154 [some (.ref x), l1] [.ref x] m Q := A_aload_n hB_X11_count dX11_count_153 rfl
theorem dX11_count_154 : decode cX11_count 154 = .ok (.getfield 20, 3) := by decide +kernel
theorem tX11_count_154 {d : Nat} {l0 l1 : Option Value} {a : Nat} {m : jmM} {Q : Option Value → jmM → Prop} : AW d 150 154 [l0, l1] [.ref a] m Q ↔ (mS m a).1 = 11 ∧ AW d 150 157 [l0, l1] [va_rf (mR m a 1)] m Q := A_getfield (f := fun m a => va_rf (mR m a 1)) hB_X11_count dX11_count_154 hO_X11_count fF_11_20 rfl
theorem dX11_count_157 : decode cX11_count 157 = .ok (.invokevirtual 107, 3) := by decide +kernel
theorem tX11_count_157 {d : Nat} {l0 l1 : Option Value} {a : Nat} {m : jmM} {Q : Option Value → jmM → Prop} : AW d 150 157 [l0, l1] [.ref a] m Q ↔ (mS m a).1 = 9 ∧ CC d 131 [.ref a] m (jK d 150 160 [l0, l1] [] Q) := A_callV hB_X11_count dX11_count_157 hO_X11_count fS_11_107 ⟨Nat.le_of_ble_eq_true rfl, Nat.le_of_ble_eq_true rfl⟩ rfl rfl rfl
theorem dX11_count_160 : decode cX11_count 160 = .ok (.ireturn, 1) := by decide +kernel
theorem tX11_count_160 {d : Nat} {l0 l1 : Option Value} {x : Int32} {m : jmM} {Q : Option Value → jmM → Prop} : AW d 150 160 [l0, l1] [.int x] m Q ↔ Q (some (.int x)) m := A_ireturn hB_X11_count dX11_count_160 hR_X11_count
theorem dX11_count_161 : decode cX11_count 161 = .ok (.aload_n 0, 1) := by decide +kernel
theorem tX11_count_161 {d : Nat} {l1 : Option Value} {x : Nat} {m : jmM} {Q : Option Value → jmM → Prop} : AW d 150 161 [some (.ref x), l1] [] m Q ↔ AW d 150 162 [some (.ref x), l1] [.ref x] m Q := A_aload_n hB_X11_count dX11_count_161 rfl
theorem dX11_count_162 : decode cX11_count 162 = .ok (.getfield 102, 3) := by decide +kernel
theorem tX11_count_162 {d : Nat} {l0 l1 : Option Value} {a : Nat} {m : jmM} {Q : Option Value → jmM → Prop} : AW d 150 162 [l0, l1] [.ref a] m Q ↔ (mS m a).1 = 11 ∧ AW d 150 165 [l0, l1] [.int (mI m a 18)] m Q := A_getfield (f := fun m a => .int (mI m a 18)) hB_X11_count dX11_count_162 hO_X11_count fF_11_102 rfl
theorem dX11_count_165 : decode cX11_count 165 = .ok (.ireturn, 1) := by decide +kernel
theorem tX11_count_165 {d : Nat} {l0 l1 : Option Value} {x : Int32} {m : jmM} {Q : Option Value → jmM → Prop} : AW d 150 165 [l0, l1] [.int x] m Q ↔ Q (some (.int x)) m := A_ireturn hB_X11_count dX11_count_165 hR_X11_count
theorem dX11_count_166 : decode cX11_count 166 = .ok (.iconst (-1), 1) := by decide +kernel
theorem tX11_count_166 {d : Nat} {l0 l1 : Option Value} {m : jmM} {Q : Option Value → jmM → Prop} : AW d 150 166 [l0, l1] [] m Q ↔ AW d 150 167 [l0, l1] [.int (-1)] m Q := A_iconst hB_X11_count dX11_count_166 (by decide)
theorem dX11_count_167 : decode cX11_count 167 = .ok (.ireturn, 1) := by decide +kernel
theorem tX11_count_167 {d : Nat} {l0 l1 : Option Value} {x : Int32} {m : jmM} {Q : Option Value → jmM → Prop} : AW d 150 167 [l0, l1] [.int x] m Q ↔ Q (some (.int x)) m := A_ireturn hB_X11_count dX11_count_167 hR_X11_count
theorem hB_X11_row : jB 151 = cX11_row := rfl
theorem hO_X11_row : jO 151 = 11 := rfl
theorem hR_X11_row : jRt 151 = (some .int) := rfl
theorem nX11_row (d : Nat) (x0 : Nat) (x1 : Int32) (x2 : Int32) (m : jmM) (Q : Option Value → jmM → Prop) : CC (d + 1) 151 [.ref x0, .int x1, .int x2] m Q ↔ AW d 151 0 [some (.ref x0), some (.int x1), some (.int x2)] [] m Q := CC_body (Nat.le_of_ble_eq_true rfl)
theorem dX11_row_0 : decode cX11_row 0 = .ok (.aload_n 0, 1) := by decide +kernel
theorem tX11_row_0 {d : Nat} {l1 l2 : Option Value} {x : Nat} {m : jmM} {Q : Option Value → jmM → Prop} : AW d 151 0 [some (.ref x), l1, l2] [] m Q ↔ AW d 151 1 [some (.ref x), l1, l2] [.ref x] m Q := A_aload_n hB_X11_row dX11_row_0 rfl
theorem dX11_row_1 : decode cX11_row 1 = .ok (.getfield 56, 3) := by decide +kernel
theorem tX11_row_1 {d : Nat} {l0 l1 l2 : Option Value} {a : Nat} {m : jmM} {Q : Option Value → jmM → Prop} : AW d 151 1 [l0, l1, l2] [.ref a] m Q ↔ (mS m a).1 = 11 ∧ AW d 151 4 [l0, l1, l2] [va_rf (mR m a 8)] m Q := A_getfield (f := fun m a => va_rf (mR m a 8)) hB_X11_row dX11_row_1 hO_X11_row fF_11_56 rfl
theorem dX11_row_4 : decode cX11_row 4 = .ok (.iload_n 1, 1) := by decide +kernel
theorem tX11_row_4 {d : Nat} {l0 l2 : Option Value} {v0 : Value} {x : Int32} {m : jmM} {Q : Option Value → jmM → Prop} : AW d 151 4 [l0, some (.int x), l2] [v0] m Q ↔ AW d 151 5 [l0, some (.int x), l2] [.int x, v0] m Q := A_iload_n hB_X11_row dX11_row_4 rfl
theorem dX11_row_5 : decode cX11_row 5 = .ok (.invokevirtual 193, 3) := by decide +kernel
theorem tX11_row_5 {d : Nat} {l0 l1 l2 : Option Value} {y0 : Value} {a : Nat} {m : jmM} {Q : Option Value → jmM → Prop} : AW d 151 5 [l0, l1, l2] [y0, .ref a] m Q ↔ (mS m a).1 = 5 ∧ CC d 72 [.ref a, y0] m (jK d 151 8 [l0, l1, l2] [] Q) := A_callV hB_X11_row dX11_row_5 hO_X11_row fS_11_193 ⟨Nat.le_of_ble_eq_true rfl, Nat.le_of_ble_eq_true rfl⟩ rfl rfl rfl
theorem dX11_row_8 : decode cX11_row 8 = .ok (.ifCond .ne 5, 3) := by decide +kernel
theorem tX11_row_8 {d : Nat} {l0 l1 l2 : Option Value} {x : Int32} {m : jmM} {Q : Option Value → jmM → Prop} : AW d 151 8 [l0, l1, l2] [.int x] m Q ↔ if x = 0 then AW d 151 11 [l0, l1, l2] [] m Q else AW d 151 13 [l0, l1, l2] [] m Q := A_if_ne hB_X11_row dX11_row_8 (by decide)
theorem dX11_row_11 : decode cX11_row 11 = .ok (.iconst (-1), 1) := by decide +kernel
theorem tX11_row_11 {d : Nat} {l0 l1 l2 : Option Value} {m : jmM} {Q : Option Value → jmM → Prop} : AW d 151 11 [l0, l1, l2] [] m Q ↔ AW d 151 12 [l0, l1, l2] [.int (-1)] m Q := A_iconst hB_X11_row dX11_row_11 (by decide)
theorem dX11_row_12 : decode cX11_row 12 = .ok (.ireturn, 1) := by decide +kernel
theorem tX11_row_12 {d : Nat} {l0 l1 l2 : Option Value} {x : Int32} {m : jmM} {Q : Option Value → jmM → Prop} : AW d 151 12 [l0, l1, l2] [.int x] m Q ↔ Q (some (.int x)) m := A_ireturn hB_X11_row dX11_row_12 hR_X11_row
theorem dX11_row_13 : decode cX11_row 13 = .ok (.iload_n 2, 1) := by decide +kernel
theorem tX11_row_13 {d : Nat} {l0 l1 : Option Value} {x : Int32} {m : jmM} {Q : Option Value → jmM → Prop} : AW d 151 13 [l0, l1, some (.int x)] [] m Q ↔ AW d 151 14 [l0, l1, some (.int x)] [.int x] m Q := A_iload_n hB_X11_row dX11_row_13 rfl
theorem dX11_row_14 : decode cX11_row 14 = .ok (.tableswitch 129 0 6 #[42, 51, 60, 69, 78, 91, 112], 42) := by decide +kernel
theorem tX11_row_14 {d : Nat} {l0 l1 l2 : Option Value} {x : Int32} {m : jmM} {Q : Option Value → jmM → Prop} : AW d 151 14 [l0, l1, l2] [.int x] m Q ↔ if x = 0 then AW d 151 56 [l0, l1, l2] [] m Q else if x = 1 then AW d 151 65 [l0, l1, l2] [] m Q else if x = 2 then AW d 151 74 [l0, l1, l2] [] m Q else if x = 3 then AW d 151 83 [l0, l1, l2] [] m Q else if x = 4 then AW d 151 92 [l0, l1, l2] [] m Q else if x = 5 then AW d 151 105 [l0, l1, l2] [] m Q else if x = 6 then AW d 151 126 [l0, l1, l2] [] m Q else AW d 151 143 [l0, l1, l2] [] m Q := by
  by_cases h0 : x = 0
  · subst h0; rw [if_pos rfl]; exact A_switch hB_X11_row dX11_row_14 (by decide) (by decide)
  rw [if_neg h0]
  have e0 := i32_ne (n := 0) (by decide) h0
  by_cases h1 : x = 1
  · subst h1; rw [if_pos rfl]; exact A_switch hB_X11_row dX11_row_14 (by decide) (by decide)
  rw [if_neg h1]
  have e1 := i32_ne (n := 1) (by decide) h1
  by_cases h2 : x = 2
  · subst h2; rw [if_pos rfl]; exact A_switch hB_X11_row dX11_row_14 (by decide) (by decide)
  rw [if_neg h2]
  have e2 := i32_ne (n := 2) (by decide) h2
  by_cases h3 : x = 3
  · subst h3; rw [if_pos rfl]; exact A_switch hB_X11_row dX11_row_14 (by decide) (by decide)
  rw [if_neg h3]
  have e3 := i32_ne (n := 3) (by decide) h3
  by_cases h4 : x = 4
  · subst h4; rw [if_pos rfl]; exact A_switch hB_X11_row dX11_row_14 (by decide) (by decide)
  rw [if_neg h4]
  have e4 := i32_ne (n := 4) (by decide) h4
  by_cases h5 : x = 5
  · subst h5; rw [if_pos rfl]; exact A_switch hB_X11_row dX11_row_14 (by decide) (by decide)
  rw [if_neg h5]
  have e5 := i32_ne (n := 5) (by decide) h5
  by_cases h6 : x = 6
  · subst h6; rw [if_pos rfl]; exact A_switch hB_X11_row dX11_row_14 (by decide) (by decide)
  rw [if_neg h6]
  have e6 := i32_ne (n := 6) (by decide) h6
  exact A_switch hB_X11_row dX11_row_14 (t := 143) (by decide) (by unfold jsw; rw [if_pos (by omega)]; rfl)
theorem dX11_row_56 : decode cX11_row 56 = .ok (.aload_n 0, 1) := by decide +kernel
theorem tX11_row_56 {d : Nat} {l1 l2 : Option Value} {x : Nat} {m : jmM} {Q : Option Value → jmM → Prop} : AW d 151 56 [some (.ref x), l1, l2] [] m Q ↔ AW d 151 57 [some (.ref x), l1, l2] [.ref x] m Q := A_aload_n hB_X11_row dX11_row_56 rfl
theorem dX11_row_57 : decode cX11_row 57 = .ok (.getfield 56, 3) := by decide +kernel
theorem tX11_row_57 {d : Nat} {l0 l1 l2 : Option Value} {a : Nat} {m : jmM} {Q : Option Value → jmM → Prop} : AW d 151 57 [l0, l1, l2] [.ref a] m Q ↔ (mS m a).1 = 11 ∧ AW d 151 60 [l0, l1, l2] [va_rf (mR m a 8)] m Q := A_getfield (f := fun m a => va_rf (mR m a 8)) hB_X11_row dX11_row_57 hO_X11_row fF_11_56 rfl
theorem dX11_row_60 : decode cX11_row 60 = .ok (.iload_n 1, 1) := by decide +kernel
theorem tX11_row_60 {d : Nat} {l0 l2 : Option Value} {v0 : Value} {x : Int32} {m : jmM} {Q : Option Value → jmM → Prop} : AW d 151 60 [l0, some (.int x), l2] [v0] m Q ↔ AW d 151 61 [l0, some (.int x), l2] [.int x, v0] m Q := A_iload_n hB_X11_row dX11_row_60 rfl
theorem dX11_row_61 : decode cX11_row 61 = .ok (.invokevirtual 196, 3) := by decide +kernel
theorem tX11_row_61 {d : Nat} {l0 l1 l2 : Option Value} {y0 : Value} {a : Nat} {m : jmM} {Q : Option Value → jmM → Prop} : AW d 151 61 [l0, l1, l2] [y0, .ref a] m Q ↔ (mS m a).1 = 5 ∧ CC d 81 [.ref a, y0] m (jK d 151 64 [l0, l1, l2] [] Q) := A_callV hB_X11_row dX11_row_61 hO_X11_row fS_11_196 ⟨Nat.le_of_ble_eq_true rfl, Nat.le_of_ble_eq_true rfl⟩ rfl rfl rfl
theorem dX11_row_64 : decode cX11_row 64 = .ok (.ireturn, 1) := by decide +kernel
theorem tX11_row_64 {d : Nat} {l0 l1 l2 : Option Value} {x : Int32} {m : jmM} {Q : Option Value → jmM → Prop} : AW d 151 64 [l0, l1, l2] [.int x] m Q ↔ Q (some (.int x)) m := A_ireturn hB_X11_row dX11_row_64 hR_X11_row
theorem dX11_row_65 : decode cX11_row 65 = .ok (.aload_n 0, 1) := by decide +kernel
theorem tX11_row_65 {d : Nat} {l1 l2 : Option Value} {x : Nat} {m : jmM} {Q : Option Value → jmM → Prop} : AW d 151 65 [some (.ref x), l1, l2] [] m Q ↔ AW d 151 66 [some (.ref x), l1, l2] [.ref x] m Q := A_aload_n hB_X11_row dX11_row_65 rfl
theorem dX11_row_66 : decode cX11_row 66 = .ok (.getfield 56, 3) := by decide +kernel
theorem tX11_row_66 {d : Nat} {l0 l1 l2 : Option Value} {a : Nat} {m : jmM} {Q : Option Value → jmM → Prop} : AW d 151 66 [l0, l1, l2] [.ref a] m Q ↔ (mS m a).1 = 11 ∧ AW d 151 69 [l0, l1, l2] [va_rf (mR m a 8)] m Q := A_getfield (f := fun m a => va_rf (mR m a 8)) hB_X11_row dX11_row_66 hO_X11_row fF_11_56 rfl
theorem dX11_row_69 : decode cX11_row 69 = .ok (.iload_n 1, 1) := by decide +kernel
theorem tX11_row_69 {d : Nat} {l0 l2 : Option Value} {v0 : Value} {x : Int32} {m : jmM} {Q : Option Value → jmM → Prop} : AW d 151 69 [l0, some (.int x), l2] [v0] m Q ↔ AW d 151 70 [l0, some (.int x), l2] [.int x, v0] m Q := A_iload_n hB_X11_row dX11_row_69 rfl
theorem dX11_row_70 : decode cX11_row 70 = .ok (.invokevirtual 200, 3) := by decide +kernel
theorem tX11_row_70 {d : Nat} {l0 l1 l2 : Option Value} {y0 : Value} {a : Nat} {m : jmM} {Q : Option Value → jmM → Prop} : AW d 151 70 [l0, l1, l2] [y0, .ref a] m Q ↔ (mS m a).1 = 5 ∧ CC d 82 [.ref a, y0] m (jK d 151 73 [l0, l1, l2] [] Q) := A_callV hB_X11_row dX11_row_70 hO_X11_row fS_11_200 ⟨Nat.le_of_ble_eq_true rfl, Nat.le_of_ble_eq_true rfl⟩ rfl rfl rfl
theorem dX11_row_73 : decode cX11_row 73 = .ok (.ireturn, 1) := by decide +kernel
theorem tX11_row_73 {d : Nat} {l0 l1 l2 : Option Value} {x : Int32} {m : jmM} {Q : Option Value → jmM → Prop} : AW d 151 73 [l0, l1, l2] [.int x] m Q ↔ Q (some (.int x)) m := A_ireturn hB_X11_row dX11_row_73 hR_X11_row
theorem dX11_row_74 : decode cX11_row 74 = .ok (.aload_n 0, 1) := by decide +kernel
theorem tX11_row_74 {d : Nat} {l1 l2 : Option Value} {x : Nat} {m : jmM} {Q : Option Value → jmM → Prop} : AW d 151 74 [some (.ref x), l1, l2] [] m Q ↔ AW d 151 75 [some (.ref x), l1, l2] [.ref x] m Q := A_aload_n hB_X11_row dX11_row_74 rfl
theorem dX11_row_75 : decode cX11_row 75 = .ok (.getfield 56, 3) := by decide +kernel
theorem tX11_row_75 {d : Nat} {l0 l1 l2 : Option Value} {a : Nat} {m : jmM} {Q : Option Value → jmM → Prop} : AW d 151 75 [l0, l1, l2] [.ref a] m Q ↔ (mS m a).1 = 11 ∧ AW d 151 78 [l0, l1, l2] [va_rf (mR m a 8)] m Q := A_getfield (f := fun m a => va_rf (mR m a 8)) hB_X11_row dX11_row_75 hO_X11_row fF_11_56 rfl
theorem dX11_row_78 : decode cX11_row 78 = .ok (.iload_n 1, 1) := by decide +kernel
theorem tX11_row_78 {d : Nat} {l0 l2 : Option Value} {v0 : Value} {x : Int32} {m : jmM} {Q : Option Value → jmM → Prop} : AW d 151 78 [l0, some (.int x), l2] [v0] m Q ↔ AW d 151 79 [l0, some (.int x), l2] [.int x, v0] m Q := A_iload_n hB_X11_row dX11_row_78 rfl
theorem dX11_row_79 : decode cX11_row 79 = .ok (.invokevirtual 203, 3) := by decide +kernel
theorem tX11_row_79 {d : Nat} {l0 l1 l2 : Option Value} {y0 : Value} {a : Nat} {m : jmM} {Q : Option Value → jmM → Prop} : AW d 151 79 [l0, l1, l2] [y0, .ref a] m Q ↔ (mS m a).1 = 5 ∧ CC d 83 [.ref a, y0] m (jK d 151 82 [l0, l1, l2] [] Q) := A_callV hB_X11_row dX11_row_79 hO_X11_row fS_11_203 ⟨Nat.le_of_ble_eq_true rfl, Nat.le_of_ble_eq_true rfl⟩ rfl rfl rfl
theorem dX11_row_82 : decode cX11_row 82 = .ok (.ireturn, 1) := by decide +kernel
theorem tX11_row_82 {d : Nat} {l0 l1 l2 : Option Value} {x : Int32} {m : jmM} {Q : Option Value → jmM → Prop} : AW d 151 82 [l0, l1, l2] [.int x] m Q ↔ Q (some (.int x)) m := A_ireturn hB_X11_row dX11_row_82 hR_X11_row
theorem dX11_row_83 : decode cX11_row 83 = .ok (.aload_n 0, 1) := by decide +kernel
theorem tX11_row_83 {d : Nat} {l1 l2 : Option Value} {x : Nat} {m : jmM} {Q : Option Value → jmM → Prop} : AW d 151 83 [some (.ref x), l1, l2] [] m Q ↔ AW d 151 84 [some (.ref x), l1, l2] [.ref x] m Q := A_aload_n hB_X11_row dX11_row_83 rfl
theorem dX11_row_84 : decode cX11_row 84 = .ok (.getfield 56, 3) := by decide +kernel
theorem tX11_row_84 {d : Nat} {l0 l1 l2 : Option Value} {a : Nat} {m : jmM} {Q : Option Value → jmM → Prop} : AW d 151 84 [l0, l1, l2] [.ref a] m Q ↔ (mS m a).1 = 11 ∧ AW d 151 87 [l0, l1, l2] [va_rf (mR m a 8)] m Q := A_getfield (f := fun m a => va_rf (mR m a 8)) hB_X11_row dX11_row_84 hO_X11_row fF_11_56 rfl
theorem dX11_row_87 : decode cX11_row 87 = .ok (.iload_n 1, 1) := by decide +kernel
theorem tX11_row_87 {d : Nat} {l0 l2 : Option Value} {v0 : Value} {x : Int32} {m : jmM} {Q : Option Value → jmM → Prop} : AW d 151 87 [l0, some (.int x), l2] [v0] m Q ↔ AW d 151 88 [l0, some (.int x), l2] [.int x, v0] m Q := A_iload_n hB_X11_row dX11_row_87 rfl
theorem dX11_row_88 : decode cX11_row 88 = .ok (.invokevirtual 206, 3) := by decide +kernel
theorem tX11_row_88 {d : Nat} {l0 l1 l2 : Option Value} {y0 : Value} {a : Nat} {m : jmM} {Q : Option Value → jmM → Prop} : AW d 151 88 [l0, l1, l2] [y0, .ref a] m Q ↔ (mS m a).1 = 5 ∧ CC d 84 [.ref a, y0] m (jK d 151 91 [l0, l1, l2] [] Q) := A_callV hB_X11_row dX11_row_88 hO_X11_row fS_11_206 ⟨Nat.le_of_ble_eq_true rfl, Nat.le_of_ble_eq_true rfl⟩ rfl rfl rfl
theorem dX11_row_91 : decode cX11_row 91 = .ok (.ireturn, 1) := by decide +kernel
theorem tX11_row_91 {d : Nat} {l0 l1 l2 : Option Value} {x : Int32} {m : jmM} {Q : Option Value → jmM → Prop} : AW d 151 91 [l0, l1, l2] [.int x] m Q ↔ Q (some (.int x)) m := A_ireturn hB_X11_row dX11_row_91 hR_X11_row
theorem dX11_row_92 : decode cX11_row 92 = .ok (.aload_n 0, 1) := by decide +kernel
theorem tX11_row_92 {d : Nat} {l1 l2 : Option Value} {x : Nat} {m : jmM} {Q : Option Value → jmM → Prop} : AW d 151 92 [some (.ref x), l1, l2] [] m Q ↔ AW d 151 93 [some (.ref x), l1, l2] [.ref x] m Q := A_aload_n hB_X11_row dX11_row_92 rfl
theorem dX11_row_93 : decode cX11_row 93 = .ok (.getfield 56, 3) := by decide +kernel
theorem tX11_row_93 {d : Nat} {l0 l1 l2 : Option Value} {a : Nat} {m : jmM} {Q : Option Value → jmM → Prop} : AW d 151 93 [l0, l1, l2] [.ref a] m Q ↔ (mS m a).1 = 11 ∧ AW d 151 96 [l0, l1, l2] [va_rf (mR m a 8)] m Q := A_getfield (f := fun m a => va_rf (mR m a 8)) hB_X11_row dX11_row_93 hO_X11_row fF_11_56 rfl
theorem dX11_row_96 : decode cX11_row 96 = .ok (.iload_n 1, 1) := by decide +kernel
theorem tX11_row_96 {d : Nat} {l0 l2 : Option Value} {v0 : Value} {x : Int32} {m : jmM} {Q : Option Value → jmM → Prop} : AW d 151 96 [l0, some (.int x), l2] [v0] m Q ↔ AW d 151 97 [l0, some (.int x), l2] [.int x, v0] m Q := A_iload_n hB_X11_row dX11_row_96 rfl
theorem dX11_row_97 : decode cX11_row 97 = .ok (.aload_n 0, 1) := by decide +kernel
theorem tX11_row_97 {d : Nat} {l1 l2 : Option Value} {v0 v1 : Value} {x : Nat} {m : jmM} {Q : Option Value → jmM → Prop} : AW d 151 97 [some (.ref x), l1, l2] [v0, v1] m Q ↔ AW d 151 98 [some (.ref x), l1, l2] [.ref x, v0, v1] m Q := A_aload_n hB_X11_row dX11_row_97 rfl
theorem dX11_row_98 : decode cX11_row 98 = .ok (.getfield 49, 3) := by decide +kernel
theorem tX11_row_98 {d : Nat} {l0 l1 l2 : Option Value} {v1 v2 : Value} {a : Nat} {m : jmM} {Q : Option Value → jmM → Prop} : AW d 151 98 [l0, l1, l2] [.ref a, v1, v2] m Q ↔ (mS m a).1 = 11 ∧ AW d 151 101 [l0, l1, l2] [.int (mI m a 7), v1, v2] m Q := A_getfield (f := fun m a => .int (mI m a 7)) hB_X11_row dX11_row_98 hO_X11_row fF_11_49 rfl
theorem dX11_row_101 : decode cX11_row 101 = .ok (.invokevirtual 209, 3) := by decide +kernel
theorem tX11_row_101 {d : Nat} {l0 l1 l2 : Option Value} {y0 y1 : Value} {a : Nat} {m : jmM} {Q : Option Value → jmM → Prop} : AW d 151 101 [l0, l1, l2] [y0, y1, .ref a] m Q ↔ (mS m a).1 = 5 ∧ CC d 67 [.ref a, y1, y0] m (jK d 151 104 [l0, l1, l2] [] Q) := A_callV hB_X11_row dX11_row_101 hO_X11_row fS_11_209 ⟨Nat.le_of_ble_eq_true rfl, Nat.le_of_ble_eq_true rfl⟩ rfl rfl rfl
theorem dX11_row_104 : decode cX11_row 104 = .ok (.ireturn, 1) := by decide +kernel
theorem tX11_row_104 {d : Nat} {l0 l1 l2 : Option Value} {x : Int32} {m : jmM} {Q : Option Value → jmM → Prop} : AW d 151 104 [l0, l1, l2] [.int x] m Q ↔ Q (some (.int x)) m := A_ireturn hB_X11_row dX11_row_104 hR_X11_row
theorem dX11_row_105 : decode cX11_row 105 = .ok (.iload_n 1, 1) := by decide +kernel
theorem tX11_row_105 {d : Nat} {l0 l2 : Option Value} {x : Int32} {m : jmM} {Q : Option Value → jmM → Prop} : AW d 151 105 [l0, some (.int x), l2] [] m Q ↔ AW d 151 106 [l0, some (.int x), l2] [.int x] m Q := A_iload_n hB_X11_row dX11_row_105 rfl
theorem dX11_row_106 : decode cX11_row 106 = .ok (.aload_n 0, 1) := by decide +kernel
theorem tX11_row_106 {d : Nat} {l1 l2 : Option Value} {v0 : Value} {x : Nat} {m : jmM} {Q : Option Value → jmM → Prop} : AW d 151 106 [some (.ref x), l1, l2] [v0] m Q ↔ AW d 151 107 [some (.ref x), l1, l2] [.ref x, v0] m Q := A_aload_n hB_X11_row dX11_row_106 rfl
theorem dX11_row_107 : decode cX11_row 107 = .ok (.getfield 56, 3) := by decide +kernel
theorem tX11_row_107 {d : Nat} {l0 l1 l2 : Option Value} {v1 : Value} {a : Nat} {m : jmM} {Q : Option Value → jmM → Prop} : AW d 151 107 [l0, l1, l2] [.ref a, v1] m Q ↔ (mS m a).1 = 11 ∧ AW d 151 110 [l0, l1, l2] [va_rf (mR m a 8), v1] m Q := A_getfield (f := fun m a => va_rf (mR m a 8)) hB_X11_row dX11_row_107 hO_X11_row fF_11_56 rfl
theorem dX11_row_110 : decode cX11_row 110 = .ok (.aload_n 0, 1) := by decide +kernel
theorem tX11_row_110 {d : Nat} {l1 l2 : Option Value} {v0 v1 : Value} {x : Nat} {m : jmM} {Q : Option Value → jmM → Prop} : AW d 151 110 [some (.ref x), l1, l2] [v0, v1] m Q ↔ AW d 151 111 [some (.ref x), l1, l2] [.ref x, v0, v1] m Q := A_aload_n hB_X11_row dX11_row_110 rfl
theorem dX11_row_111 : decode cX11_row 111 = .ok (.getfield 49, 3) := by decide +kernel
theorem tX11_row_111 {d : Nat} {l0 l1 l2 : Option Value} {v1 v2 : Value} {a : Nat} {m : jmM} {Q : Option Value → jmM → Prop} : AW d 151 111 [l0, l1, l2] [.ref a, v1, v2] m Q ↔ (mS m a).1 = 11 ∧ AW d 151 114 [l0, l1, l2] [.int (mI m a 7), v1, v2] m Q := A_getfield (f := fun m a => .int (mI m a 7)) hB_X11_row dX11_row_111 hO_X11_row fF_11_49 rfl
theorem dX11_row_114 : decode cX11_row 114 = .ok (.invokevirtual 213, 3) := by decide +kernel
theorem tX11_row_114 {d : Nat} {l0 l1 l2 : Option Value} {v2 : Value} {y0 : Value} {a : Nat} {m : jmM} {Q : Option Value → jmM → Prop} : AW d 151 114 [l0, l1, l2] [y0, .ref a, v2] m Q ↔ (mS m a).1 = 5 ∧ CC d 63 [.ref a, y0] m (jK d 151 117 [l0, l1, l2] [v2] Q) := A_callV hB_X11_row dX11_row_114 hO_X11_row fS_11_213 ⟨Nat.le_of_ble_eq_true rfl, Nat.le_of_ble_eq_true rfl⟩ rfl rfl rfl
theorem dX11_row_117 : decode cX11_row 117 = .ok (.if_icmp .lt 7, 3) := by decide +kernel
theorem tX11_row_117 {d : Nat} {l0 l1 l2 : Option Value} {x y : Int32} {m : jmM} {Q : Option Value → jmM → Prop} : AW d 151 117 [l0, l1, l2] [.int y, .int x] m Q ↔ if x < y then AW d 151 124 [l0, l1, l2] [] m Q else AW d 151 120 [l0, l1, l2] [] m Q := A_icmp_lt hB_X11_row dX11_row_117 (by decide)
theorem dX11_row_120 : decode cX11_row 120 = .ok (.iconst 1, 1) := by decide +kernel
theorem tX11_row_120 {d : Nat} {l0 l1 l2 : Option Value} {m : jmM} {Q : Option Value → jmM → Prop} : AW d 151 120 [l0, l1, l2] [] m Q ↔ AW d 151 121 [l0, l1, l2] [.int 1] m Q := A_iconst hB_X11_row dX11_row_120 (by decide)
theorem dX11_row_121 : decode cX11_row 121 = .ok (.goto 4, 3) := by decide +kernel
theorem tX11_row_121 {d : Nat} {l0 l1 l2 : Option Value} {v0 : Value} {m : jmM} {Q : Option Value → jmM → Prop} : AW d 151 121 [l0, l1, l2] [v0] m Q ↔ AW d 151 125 [l0, l1, l2] [v0] m Q := A_goto hB_X11_row dX11_row_121 (by decide)
theorem dX11_row_124 : decode cX11_row 124 = .ok (.iconst 0, 1) := by decide +kernel
theorem tX11_row_124 {d : Nat} {l0 l1 l2 : Option Value} {m : jmM} {Q : Option Value → jmM → Prop} : AW d 151 124 [l0, l1, l2] [] m Q ↔ AW d 151 125 [l0, l1, l2] [.int 0] m Q := A_iconst hB_X11_row dX11_row_124 (by decide)
theorem dX11_row_125 : decode cX11_row 125 = .ok (.ireturn, 1) := by decide +kernel
theorem tX11_row_125 {d : Nat} {l0 l1 l2 : Option Value} {x : Int32} {m : jmM} {Q : Option Value → jmM → Prop} : AW d 151 125 [l0, l1, l2] [.int x] m Q ↔ Q (some (.int x)) m := A_ireturn hB_X11_row dX11_row_125 hR_X11_row
theorem dX11_row_126 : decode cX11_row 126 = .ok (.iload_n 1, 1) := by decide +kernel
theorem tX11_row_126 {d : Nat} {l0 l2 : Option Value} {x : Int32} {m : jmM} {Q : Option Value → jmM → Prop} : AW d 151 126 [l0, some (.int x), l2] [] m Q ↔ AW d 151 127 [l0, some (.int x), l2] [.int x] m Q := A_iload_n hB_X11_row dX11_row_126 rfl
theorem dX11_row_127 : decode cX11_row 127 = .ok (.aload_n 0, 1) := by decide +kernel
theorem tX11_row_127 {d : Nat} {l1 l2 : Option Value} {v0 : Value} {x : Nat} {m : jmM} {Q : Option Value → jmM → Prop} : AW d 151 127 [some (.ref x), l1, l2] [v0] m Q ↔ AW d 151 128 [some (.ref x), l1, l2] [.ref x, v0] m Q := A_aload_n hB_X11_row dX11_row_127 rfl
theorem dX11_row_128 : decode cX11_row 128 = .ok (.getfield 56, 3) := by decide +kernel
theorem tX11_row_128 {d : Nat} {l0 l1 l2 : Option Value} {v1 : Value} {a : Nat} {m : jmM} {Q : Option Value → jmM → Prop} : AW d 151 128 [l0, l1, l2] [.ref a, v1] m Q ↔ (mS m a).1 = 11 ∧ AW d 151 131 [l0, l1, l2] [va_rf (mR m a 8), v1] m Q := A_getfield (f := fun m a => va_rf (mR m a 8)) hB_X11_row dX11_row_128 hO_X11_row fF_11_56 rfl
theorem dX11_row_131 : decode cX11_row 131 = .ok (.invokevirtual 216, 3) := by decide +kernel
theorem tX11_row_131 {d : Nat} {l0 l1 l2 : Option Value} {v1 : Value} {a : Nat} {m : jmM} {Q : Option Value → jmM → Prop} : AW d 151 131 [l0, l1, l2] [.ref a, v1] m Q ↔ (mS m a).1 = 5 ∧ CC d 62 [.ref a] m (jK d 151 134 [l0, l1, l2] [v1] Q) := A_callV hB_X11_row dX11_row_131 hO_X11_row fS_11_216 ⟨Nat.le_of_ble_eq_true rfl, Nat.le_of_ble_eq_true rfl⟩ rfl rfl rfl
theorem dX11_row_134 : decode cX11_row 134 = .ok (.if_icmp .lt 7, 3) := by decide +kernel
theorem tX11_row_134 {d : Nat} {l0 l1 l2 : Option Value} {x y : Int32} {m : jmM} {Q : Option Value → jmM → Prop} : AW d 151 134 [l0, l1, l2] [.int y, .int x] m Q ↔ if x < y then AW d 151 141 [l0, l1, l2] [] m Q else AW d 151 137 [l0, l1, l2] [] m Q := A_icmp_lt hB_X11_row dX11_row_134 (by decide)
theorem dX11_row_137 : decode cX11_row 137 = .ok (.iconst 1, 1) := by decide +kernel
theorem tX11_row_137 {d : Nat} {l0 l1 l2 : Option Value} {m : jmM} {Q : Option Value → jmM → Prop} : AW d 151 137 [l0, l1, l2] [] m Q ↔ AW d 151 138 [l0, l1, l2] [.int 1] m Q := A_iconst hB_X11_row dX11_row_137 (by decide)
theorem dX11_row_138 : decode cX11_row 138 = .ok (.goto 4, 3) := by decide +kernel
theorem tX11_row_138 {d : Nat} {l0 l1 l2 : Option Value} {v0 : Value} {m : jmM} {Q : Option Value → jmM → Prop} : AW d 151 138 [l0, l1, l2] [v0] m Q ↔ AW d 151 142 [l0, l1, l2] [v0] m Q := A_goto hB_X11_row dX11_row_138 (by decide)
theorem dX11_row_141 : decode cX11_row 141 = .ok (.iconst 0, 1) := by decide +kernel
theorem tX11_row_141 {d : Nat} {l0 l1 l2 : Option Value} {m : jmM} {Q : Option Value → jmM → Prop} : AW d 151 141 [l0, l1, l2] [] m Q ↔ AW d 151 142 [l0, l1, l2] [.int 0] m Q := A_iconst hB_X11_row dX11_row_141 (by decide)
theorem dX11_row_142 : decode cX11_row 142 = .ok (.ireturn, 1) := by decide +kernel
theorem tX11_row_142 {d : Nat} {l0 l1 l2 : Option Value} {x : Int32} {m : jmM} {Q : Option Value → jmM → Prop} : AW d 151 142 [l0, l1, l2] [.int x] m Q ↔ Q (some (.int x)) m := A_ireturn hB_X11_row dX11_row_142 hR_X11_row
theorem dX11_row_143 : decode cX11_row 143 = .ok (.iconst (-1), 1) := by decide +kernel
theorem tX11_row_143 {d : Nat} {l0 l1 l2 : Option Value} {m : jmM} {Q : Option Value → jmM → Prop} : AW d 151 143 [l0, l1, l2] [] m Q ↔ AW d 151 144 [l0, l1, l2] [.int (-1)] m Q := A_iconst hB_X11_row dX11_row_143 (by decide)
theorem dX11_row_144 : decode cX11_row 144 = .ok (.ireturn, 1) := by decide +kernel
theorem tX11_row_144 {d : Nat} {l0 l1 l2 : Option Value} {x : Int32} {m : jmM} {Q : Option Value → jmM → Prop} : AW d 151 144 [l0, l1, l2] [.int x] m Q ↔ Q (some (.int x)) m := A_ireturn hB_X11_row dX11_row_144 hR_X11_row
theorem hB_X11_much : jB 152 = cX11_much := rfl
theorem hO_X11_much : jO 152 = 11 := rfl
theorem hR_X11_much : jRt 152 = (some .long) := rfl
theorem nX11_much (d : Nat) (x0 : Nat) (x1 : Int32) (x2 : Int32) (m : jmM) (Q : Option Value → jmM → Prop) : CC (d + 1) 152 [.ref x0, .int x1, .int x2] m Q ↔ AW d 152 0 [some (.ref x0), some (.int x1), some (.int x2)] [] m Q := CC_body (Nat.le_of_ble_eq_true rfl)
theorem dX11_much_0 : decode cX11_much 0 = .ok (.iload_n 1, 1) := by decide +kernel
theorem tX11_much_0 {d : Nat} {l0 l2 : Option Value} {x : Int32} {m : jmM} {Q : Option Value → jmM → Prop} : AW d 152 0 [l0, some (.int x), l2] [] m Q ↔ AW d 152 1 [l0, some (.int x), l2] [.int x] m Q := A_iload_n hB_X11_much dX11_much_0 rfl
theorem dX11_much_1 : decode cX11_much 1 = .ok (.invokestatic 123, 3) := by decide +kernel
theorem tX11_much_1 {d : Nat} {l0 l1 l2 : Option Value} {y0 : Value} {m : jmM} {Q : Option Value → jmM → Prop} : AW d 152 1 [l0, l1, l2] [y0] m Q ↔ CC d 182 [y0] m (jK d 152 4 [l0, l1, l2] [] Q) := A_callS0 hB_X11_much dX11_much_1 hO_X11_much fS_11_123 ⟨Nat.le_of_ble_eq_true rfl, Nat.le_of_ble_eq_true rfl⟩ rfl rfl
theorem dX11_much_4 : decode cX11_much 4 = .ok (.ifCond .ne 7, 3) := by decide +kernel
theorem tX11_much_4 {d : Nat} {l0 l1 l2 : Option Value} {x : Int32} {m : jmM} {Q : Option Value → jmM → Prop} : AW d 152 4 [l0, l1, l2] [.int x] m Q ↔ if x = 0 then AW d 152 7 [l0, l1, l2] [] m Q else AW d 152 11 [l0, l1, l2] [] m Q := A_if_ne hB_X11_much dX11_much_4 (by decide)
theorem dX11_much_7 : decode cX11_much 7 = .ok (.ldc2_w 219, 3) := by decide +kernel
theorem tX11_much_7 {d : Nat} {l0 l1 l2 : Option Value} {m : jmM} {Q : Option Value → jmM → Prop} : AW d 152 7 [l0, l1, l2] [] m Q ↔ AW d 152 10 [l0, l1, l2] [.long (-1)] m Q := A_ldc2_w hB_X11_much dX11_much_7 hO_X11_much fL2_11_219
theorem dX11_much_10 : decode cX11_much 10 = .ok (.lreturn, 1) := by decide +kernel
theorem tX11_much_10 {d : Nat} {l0 l1 l2 : Option Value} {x : Int64} {m : jmM} {Q : Option Value → jmM → Prop} : AW d 152 10 [l0, l1, l2] [.long x] m Q ↔ Q (some (.long x)) m := A_lreturn hB_X11_much dX11_much_10 hR_X11_much
theorem dX11_much_11 : decode cX11_much 11 = .ok (.iload_n 2, 1) := by decide +kernel
theorem tX11_much_11 {d : Nat} {l0 l1 : Option Value} {x : Int32} {m : jmM} {Q : Option Value → jmM → Prop} : AW d 152 11 [l0, l1, some (.int x)] [] m Q ↔ AW d 152 12 [l0, l1, some (.int x)] [.int x] m Q := A_iload_n hB_X11_much dX11_much_11 rfl
theorem dX11_much_12 : decode cX11_much 12 = .ok (.iconst (-1), 1) := by decide +kernel
theorem tX11_much_12 {d : Nat} {l0 l1 l2 : Option Value} {v0 : Value} {m : jmM} {Q : Option Value → jmM → Prop} : AW d 152 12 [l0, l1, l2] [v0] m Q ↔ AW d 152 13 [l0, l1, l2] [.int (-1), v0] m Q := A_iconst hB_X11_much dX11_much_12 (by decide)
theorem dX11_much_13 : decode cX11_much 13 = .ok (.if_icmp .ne 12, 3) := by decide +kernel
theorem tX11_much_13 {d : Nat} {l0 l1 l2 : Option Value} {x y : Int32} {m : jmM} {Q : Option Value → jmM → Prop} : AW d 152 13 [l0, l1, l2] [.int y, .int x] m Q ↔ if x = y then AW d 152 16 [l0, l1, l2] [] m Q else AW d 152 25 [l0, l1, l2] [] m Q := A_icmp_ne hB_X11_much dX11_much_13 (by decide)
theorem dX11_much_16 : decode cX11_much 16 = .ok (.aload_n 0, 1) := by decide +kernel
theorem tX11_much_16 {d : Nat} {l1 l2 : Option Value} {x : Nat} {m : jmM} {Q : Option Value → jmM → Prop} : AW d 152 16 [some (.ref x), l1, l2] [] m Q ↔ AW d 152 17 [some (.ref x), l1, l2] [.ref x] m Q := A_aload_n hB_X11_much dX11_much_16 rfl
theorem dX11_much_17 : decode cX11_much 17 = .ok (.getfield 56, 3) := by decide +kernel
theorem tX11_much_17 {d : Nat} {l0 l1 l2 : Option Value} {a : Nat} {m : jmM} {Q : Option Value → jmM → Prop} : AW d 152 17 [l0, l1, l2] [.ref a] m Q ↔ (mS m a).1 = 11 ∧ AW d 152 20 [l0, l1, l2] [va_rf (mR m a 8)] m Q := A_getfield (f := fun m a => va_rf (mR m a 8)) hB_X11_much dX11_much_17 hO_X11_much fF_11_56 rfl
theorem dX11_much_20 : decode cX11_much 20 = .ok (.iload_n 1, 1) := by decide +kernel
theorem tX11_much_20 {d : Nat} {l0 l2 : Option Value} {v0 : Value} {x : Int32} {m : jmM} {Q : Option Value → jmM → Prop} : AW d 152 20 [l0, some (.int x), l2] [v0] m Q ↔ AW d 152 21 [l0, some (.int x), l2] [.int x, v0] m Q := A_iload_n hB_X11_much dX11_much_20 rfl
theorem dX11_much_21 : decode cX11_much 21 = .ok (.invokevirtual 221, 3) := by decide +kernel
theorem tX11_much_21 {d : Nat} {l0 l1 l2 : Option Value} {y0 : Value} {a : Nat} {m : jmM} {Q : Option Value → jmM → Prop} : AW d 152 21 [l0, l1, l2] [y0, .ref a] m Q ↔ (mS m a).1 = 5 ∧ CC d 85 [.ref a, y0] m (jK d 152 24 [l0, l1, l2] [] Q) := A_callV hB_X11_much dX11_much_21 hO_X11_much fS_11_221 ⟨Nat.le_of_ble_eq_true rfl, Nat.le_of_ble_eq_true rfl⟩ rfl rfl rfl
theorem dX11_much_24 : decode cX11_much 24 = .ok (.lreturn, 1) := by decide +kernel
theorem tX11_much_24 {d : Nat} {l0 l1 l2 : Option Value} {x : Int64} {m : jmM} {Q : Option Value → jmM → Prop} : AW d 152 24 [l0, l1, l2] [.long x] m Q ↔ Q (some (.long x)) m := A_lreturn hB_X11_much dX11_much_24 hR_X11_much
theorem dX11_much_25 : decode cX11_much 25 = .ok (.aload_n 0, 1) := by decide +kernel
theorem tX11_much_25 {d : Nat} {l1 l2 : Option Value} {x : Nat} {m : jmM} {Q : Option Value → jmM → Prop} : AW d 152 25 [some (.ref x), l1, l2] [] m Q ↔ AW d 152 26 [some (.ref x), l1, l2] [.ref x] m Q := A_aload_n hB_X11_much dX11_much_25 rfl
theorem dX11_much_26 : decode cX11_much 26 = .ok (.getfield 56, 3) := by decide +kernel
theorem tX11_much_26 {d : Nat} {l0 l1 l2 : Option Value} {a : Nat} {m : jmM} {Q : Option Value → jmM → Prop} : AW d 152 26 [l0, l1, l2] [.ref a] m Q ↔ (mS m a).1 = 11 ∧ AW d 152 29 [l0, l1, l2] [va_rf (mR m a 8)] m Q := A_getfield (f := fun m a => va_rf (mR m a 8)) hB_X11_much dX11_much_26 hO_X11_much fF_11_56 rfl
theorem dX11_much_29 : decode cX11_much 29 = .ok (.iload_n 2, 1) := by decide +kernel
theorem tX11_much_29 {d : Nat} {l0 l1 : Option Value} {v0 : Value} {x : Int32} {m : jmM} {Q : Option Value → jmM → Prop} : AW d 152 29 [l0, l1, some (.int x)] [v0] m Q ↔ AW d 152 30 [l0, l1, some (.int x)] [.int x, v0] m Q := A_iload_n hB_X11_much dX11_much_29 rfl
theorem dX11_much_30 : decode cX11_much 30 = .ok (.invokevirtual 193, 3) := by decide +kernel
theorem tX11_much_30 {d : Nat} {l0 l1 l2 : Option Value} {y0 : Value} {a : Nat} {m : jmM} {Q : Option Value → jmM → Prop} : AW d 152 30 [l0, l1, l2] [y0, .ref a] m Q ↔ (mS m a).1 = 5 ∧ CC d 72 [.ref a, y0] m (jK d 152 33 [l0, l1, l2] [] Q) := A_callV hB_X11_much dX11_much_30 hO_X11_much fS_11_193 ⟨Nat.le_of_ble_eq_true rfl, Nat.le_of_ble_eq_true rfl⟩ rfl rfl rfl
theorem dX11_much_33 : decode cX11_much 33 = .ok (.ifCond .eq 15, 3) := by decide +kernel
theorem tX11_much_33 {d : Nat} {l0 l1 l2 : Option Value} {x : Int32} {m : jmM} {Q : Option Value → jmM → Prop} : AW d 152 33 [l0, l1, l2] [.int x] m Q ↔ if x = 0 then AW d 152 48 [l0, l1, l2] [] m Q else AW d 152 36 [l0, l1, l2] [] m Q := A_if_eq hB_X11_much dX11_much_33 (by decide)
theorem dX11_much_36 : decode cX11_much 36 = .ok (.aload_n 0, 1) := by decide +kernel
theorem tX11_much_36 {d : Nat} {l1 l2 : Option Value} {x : Nat} {m : jmM} {Q : Option Value → jmM → Prop} : AW d 152 36 [some (.ref x), l1, l2] [] m Q ↔ AW d 152 37 [some (.ref x), l1, l2] [.ref x] m Q := A_aload_n hB_X11_much dX11_much_36 rfl
theorem dX11_much_37 : decode cX11_much 37 = .ok (.getfield 56, 3) := by decide +kernel
theorem tX11_much_37 {d : Nat} {l0 l1 l2 : Option Value} {a : Nat} {m : jmM} {Q : Option Value → jmM → Prop} : AW d 152 37 [l0, l1, l2] [.ref a] m Q ↔ (mS m a).1 = 11 ∧ AW d 152 40 [l0, l1, l2] [va_rf (mR m a 8)] m Q := A_getfield (f := fun m a => va_rf (mR m a 8)) hB_X11_much dX11_much_37 hO_X11_much fF_11_56 rfl
theorem dX11_much_40 : decode cX11_much 40 = .ok (.iload_n 1, 1) := by decide +kernel
theorem tX11_much_40 {d : Nat} {l0 l2 : Option Value} {v0 : Value} {x : Int32} {m : jmM} {Q : Option Value → jmM → Prop} : AW d 152 40 [l0, some (.int x), l2] [v0] m Q ↔ AW d 152 41 [l0, some (.int x), l2] [.int x, v0] m Q := A_iload_n hB_X11_much dX11_much_40 rfl
theorem dX11_much_41 : decode cX11_much 41 = .ok (.iload_n 2, 1) := by decide +kernel
theorem tX11_much_41 {d : Nat} {l0 l1 : Option Value} {v0 v1 : Value} {x : Int32} {m : jmM} {Q : Option Value → jmM → Prop} : AW d 152 41 [l0, l1, some (.int x)] [v0, v1] m Q ↔ AW d 152 42 [l0, l1, some (.int x)] [.int x, v0, v1] m Q := A_iload_n hB_X11_much dX11_much_41 rfl
theorem dX11_much_42 : decode cX11_much 42 = .ok (.invokevirtual 225, 3) := by decide +kernel
theorem tX11_much_42 {d : Nat} {l0 l1 l2 : Option Value} {y0 y1 : Value} {a : Nat} {m : jmM} {Q : Option Value → jmM → Prop} : AW d 152 42 [l0, l1, l2] [y0, y1, .ref a] m Q ↔ (mS m a).1 = 5 ∧ CC d 86 [.ref a, y1, y0] m (jK d 152 45 [l0, l1, l2] [] Q) := A_callV hB_X11_much dX11_much_42 hO_X11_much fS_11_225 ⟨Nat.le_of_ble_eq_true rfl, Nat.le_of_ble_eq_true rfl⟩ rfl rfl rfl
theorem dX11_much_45 : decode cX11_much 45 = .ok (.goto 6, 3) := by decide +kernel
theorem tX11_much_45 {d : Nat} {l0 l1 l2 : Option Value} {v0 : Value} {m : jmM} {Q : Option Value → jmM → Prop} : AW d 152 45 [l0, l1, l2] [v0] m Q ↔ AW d 152 51 [l0, l1, l2] [v0] m Q := A_goto hB_X11_much dX11_much_45 (by decide)
theorem dX11_much_48 : decode cX11_much 48 = .ok (.ldc2_w 219, 3) := by decide +kernel
theorem tX11_much_48 {d : Nat} {l0 l1 l2 : Option Value} {m : jmM} {Q : Option Value → jmM → Prop} : AW d 152 48 [l0, l1, l2] [] m Q ↔ AW d 152 51 [l0, l1, l2] [.long (-1)] m Q := A_ldc2_w hB_X11_much dX11_much_48 hO_X11_much fL2_11_219
theorem dX11_much_51 : decode cX11_much 51 = .ok (.lreturn, 1) := by decide +kernel
theorem tX11_much_51 {d : Nat} {l0 l1 l2 : Option Value} {x : Int64} {m : jmM} {Q : Option Value → jmM → Prop} : AW d 152 51 [l0, l1, l2] [.long x] m Q ↔ Q (some (.long x)) m := A_lreturn hB_X11_much dX11_much_51 hR_X11_much
theorem hB_X11_parts : jB 153 = cX11_parts := rfl
theorem hO_X11_parts : jO 153 = 11 := rfl
theorem hR_X11_parts : jRt 153 = (some .long) := rfl
theorem nX11_parts (d : Nat) (x0 : Nat) (x1 : Int32) (x2 : Int32) (m : jmM) (Q : Option Value → jmM → Prop) : CC (d + 1) 153 [.ref x0, .int x1, .int x2] m Q ↔ AW d 153 0 [some (.ref x0), some (.int x1), some (.int x2)] [] m Q := CC_body (Nat.le_of_ble_eq_true rfl)
theorem dX11_parts_0 : decode cX11_parts 0 = .ok (.iload_n 1, 1) := by decide +kernel
theorem tX11_parts_0 {d : Nat} {l0 l2 : Option Value} {x : Int32} {m : jmM} {Q : Option Value → jmM → Prop} : AW d 153 0 [l0, some (.int x), l2] [] m Q ↔ AW d 153 1 [l0, some (.int x), l2] [.int x] m Q := A_iload_n hB_X11_parts dX11_parts_0 rfl
theorem dX11_parts_1 : decode cX11_parts 1 = .ok (.invokestatic 123, 3) := by decide +kernel
theorem tX11_parts_1 {d : Nat} {l0 l1 l2 : Option Value} {y0 : Value} {m : jmM} {Q : Option Value → jmM → Prop} : AW d 153 1 [l0, l1, l2] [y0] m Q ↔ CC d 182 [y0] m (jK d 153 4 [l0, l1, l2] [] Q) := A_callS0 hB_X11_parts dX11_parts_1 hO_X11_parts fS_11_123 ⟨Nat.le_of_ble_eq_true rfl, Nat.le_of_ble_eq_true rfl⟩ rfl rfl
theorem dX11_parts_4 : decode cX11_parts 4 = .ok (.ifCond .eq 26, 3) := by decide +kernel
theorem tX11_parts_4 {d : Nat} {l0 l1 l2 : Option Value} {x : Int32} {m : jmM} {Q : Option Value → jmM → Prop} : AW d 153 4 [l0, l1, l2] [.int x] m Q ↔ if x = 0 then AW d 153 30 [l0, l1, l2] [] m Q else AW d 153 7 [l0, l1, l2] [] m Q := A_if_eq hB_X11_parts dX11_parts_4 (by decide)
theorem dX11_parts_7 : decode cX11_parts 7 = .ok (.aload_n 0, 1) := by decide +kernel
theorem tX11_parts_7 {d : Nat} {l1 l2 : Option Value} {x : Nat} {m : jmM} {Q : Option Value → jmM → Prop} : AW d 153 7 [some (.ref x), l1, l2] [] m Q ↔ AW d 153 8 [some (.ref x), l1, l2] [.ref x] m Q := A_aload_n hB_X11_parts dX11_parts_7 rfl
theorem dX11_parts_8 : decode cX11_parts 8 = .ok (.getfield 56, 3) := by decide +kernel
theorem tX11_parts_8 {d : Nat} {l0 l1 l2 : Option Value} {a : Nat} {m : jmM} {Q : Option Value → jmM → Prop} : AW d 153 8 [l0, l1, l2] [.ref a] m Q ↔ (mS m a).1 = 11 ∧ AW d 153 11 [l0, l1, l2] [va_rf (mR m a 8)] m Q := A_getfield (f := fun m a => va_rf (mR m a 8)) hB_X11_parts dX11_parts_8 hO_X11_parts fF_11_56 rfl
theorem dX11_parts_11 : decode cX11_parts 11 = .ok (.iload_n 2, 1) := by decide +kernel
theorem tX11_parts_11 {d : Nat} {l0 l1 : Option Value} {v0 : Value} {x : Int32} {m : jmM} {Q : Option Value → jmM → Prop} : AW d 153 11 [l0, l1, some (.int x)] [v0] m Q ↔ AW d 153 12 [l0, l1, some (.int x)] [.int x, v0] m Q := A_iload_n hB_X11_parts dX11_parts_11 rfl
theorem dX11_parts_12 : decode cX11_parts 12 = .ok (.invokevirtual 193, 3) := by decide +kernel
theorem tX11_parts_12 {d : Nat} {l0 l1 l2 : Option Value} {y0 : Value} {a : Nat} {m : jmM} {Q : Option Value → jmM → Prop} : AW d 153 12 [l0, l1, l2] [y0, .ref a] m Q ↔ (mS m a).1 = 5 ∧ CC d 72 [.ref a, y0] m (jK d 153 15 [l0, l1, l2] [] Q) := A_callV hB_X11_parts dX11_parts_12 hO_X11_parts fS_11_193 ⟨Nat.le_of_ble_eq_true rfl, Nat.le_of_ble_eq_true rfl⟩ rfl rfl rfl
theorem dX11_parts_15 : decode cX11_parts 15 = .ok (.ifCond .eq 15, 3) := by decide +kernel
theorem tX11_parts_15 {d : Nat} {l0 l1 l2 : Option Value} {x : Int32} {m : jmM} {Q : Option Value → jmM → Prop} : AW d 153 15 [l0, l1, l2] [.int x] m Q ↔ if x = 0 then AW d 153 30 [l0, l1, l2] [] m Q else AW d 153 18 [l0, l1, l2] [] m Q := A_if_eq hB_X11_parts dX11_parts_15 (by decide)
theorem dX11_parts_18 : decode cX11_parts 18 = .ok (.aload_n 0, 1) := by decide +kernel
theorem tX11_parts_18 {d : Nat} {l1 l2 : Option Value} {x : Nat} {m : jmM} {Q : Option Value → jmM → Prop} : AW d 153 18 [some (.ref x), l1, l2] [] m Q ↔ AW d 153 19 [some (.ref x), l1, l2] [.ref x] m Q := A_aload_n hB_X11_parts dX11_parts_18 rfl
theorem dX11_parts_19 : decode cX11_parts 19 = .ok (.getfield 56, 3) := by decide +kernel
theorem tX11_parts_19 {d : Nat} {l0 l1 l2 : Option Value} {a : Nat} {m : jmM} {Q : Option Value → jmM → Prop} : AW d 153 19 [l0, l1, l2] [.ref a] m Q ↔ (mS m a).1 = 11 ∧ AW d 153 22 [l0, l1, l2] [va_rf (mR m a 8)] m Q := A_getfield (f := fun m a => va_rf (mR m a 8)) hB_X11_parts dX11_parts_19 hO_X11_parts fF_11_56 rfl
theorem dX11_parts_22 : decode cX11_parts 22 = .ok (.iload_n 1, 1) := by decide +kernel
theorem tX11_parts_22 {d : Nat} {l0 l2 : Option Value} {v0 : Value} {x : Int32} {m : jmM} {Q : Option Value → jmM → Prop} : AW d 153 22 [l0, some (.int x), l2] [v0] m Q ↔ AW d 153 23 [l0, some (.int x), l2] [.int x, v0] m Q := A_iload_n hB_X11_parts dX11_parts_22 rfl
theorem dX11_parts_23 : decode cX11_parts 23 = .ok (.iload_n 2, 1) := by decide +kernel
theorem tX11_parts_23 {d : Nat} {l0 l1 : Option Value} {v0 v1 : Value} {x : Int32} {m : jmM} {Q : Option Value → jmM → Prop} : AW d 153 23 [l0, l1, some (.int x)] [v0, v1] m Q ↔ AW d 153 24 [l0, l1, some (.int x)] [.int x, v0, v1] m Q := A_iload_n hB_X11_parts dX11_parts_23 rfl
theorem dX11_parts_24 : decode cX11_parts 24 = .ok (.invokevirtual 229, 3) := by decide +kernel
theorem tX11_parts_24 {d : Nat} {l0 l1 l2 : Option Value} {y0 y1 : Value} {a : Nat} {m : jmM} {Q : Option Value → jmM → Prop} : AW d 153 24 [l0, l1, l2] [y0, y1, .ref a] m Q ↔ (mS m a).1 = 5 ∧ CC d 87 [.ref a, y1, y0] m (jK d 153 27 [l0, l1, l2] [] Q) := A_callV hB_X11_parts dX11_parts_24 hO_X11_parts fS_11_229 ⟨Nat.le_of_ble_eq_true rfl, Nat.le_of_ble_eq_true rfl⟩ rfl rfl rfl
theorem dX11_parts_27 : decode cX11_parts 27 = .ok (.goto 6, 3) := by decide +kernel
theorem tX11_parts_27 {d : Nat} {l0 l1 l2 : Option Value} {v0 : Value} {m : jmM} {Q : Option Value → jmM → Prop} : AW d 153 27 [l0, l1, l2] [v0] m Q ↔ AW d 153 33 [l0, l1, l2] [v0] m Q := A_goto hB_X11_parts dX11_parts_27 (by decide)
theorem dX11_parts_30 : decode cX11_parts 30 = .ok (.ldc2_w 219, 3) := by decide +kernel
theorem tX11_parts_30 {d : Nat} {l0 l1 l2 : Option Value} {m : jmM} {Q : Option Value → jmM → Prop} : AW d 153 30 [l0, l1, l2] [] m Q ↔ AW d 153 33 [l0, l1, l2] [.long (-1)] m Q := A_ldc2_w hB_X11_parts dX11_parts_30 hO_X11_parts fL2_11_219
theorem dX11_parts_33 : decode cX11_parts 33 = .ok (.lreturn, 1) := by decide +kernel
theorem tX11_parts_33 {d : Nat} {l0 l1 l2 : Option Value} {x : Int64} {m : jmM} {Q : Option Value → jmM → Prop} : AW d 153 33 [l0, l1, l2] [.long x] m Q ↔ Q (some (.long x)) m := A_lreturn hB_X11_parts dX11_parts_33 hR_X11_parts
theorem hB_X11_melt : jB 154 = cX11_melt := rfl
theorem hO_X11_melt : jO 154 = 11 := rfl
theorem hR_X11_melt : jRt 154 = (some .int) := rfl
theorem nX11_melt (d : Nat) (x0 : Nat) (x1 : Int32) (m : jmM) (Q : Option Value → jmM → Prop) : CC (d + 1) 154 [.ref x0, .int x1] m Q ↔ AW d 154 0 [some (.ref x0), some (.int x1)] [] m Q := CC_body (Nat.le_of_ble_eq_true rfl)
theorem dX11_melt_0 : decode cX11_melt 0 = .ok (.aload_n 0, 1) := by decide +kernel
theorem tX11_melt_0 {d : Nat} {l1 : Option Value} {x : Nat} {m : jmM} {Q : Option Value → jmM → Prop} : AW d 154 0 [some (.ref x), l1] [] m Q ↔ AW d 154 1 [some (.ref x), l1] [.ref x] m Q := A_aload_n hB_X11_melt dX11_melt_0 rfl
theorem dX11_melt_1 : decode cX11_melt 1 = .ok (.getfield 56, 3) := by decide +kernel
theorem tX11_melt_1 {d : Nat} {l0 l1 : Option Value} {a : Nat} {m : jmM} {Q : Option Value → jmM → Prop} : AW d 154 1 [l0, l1] [.ref a] m Q ↔ (mS m a).1 = 11 ∧ AW d 154 4 [l0, l1] [va_rf (mR m a 8)] m Q := A_getfield (f := fun m a => va_rf (mR m a 8)) hB_X11_melt dX11_melt_1 hO_X11_melt fF_11_56 rfl
theorem dX11_melt_4 : decode cX11_melt 4 = .ok (.iload_n 1, 1) := by decide +kernel
theorem tX11_melt_4 {d : Nat} {l0 : Option Value} {v0 : Value} {x : Int32} {m : jmM} {Q : Option Value → jmM → Prop} : AW d 154 4 [l0, some (.int x)] [v0] m Q ↔ AW d 154 5 [l0, some (.int x)] [.int x, v0] m Q := A_iload_n hB_X11_melt dX11_melt_4 rfl
theorem dX11_melt_5 : decode cX11_melt 5 = .ok (.invokevirtual 193, 3) := by decide +kernel
theorem tX11_melt_5 {d : Nat} {l0 l1 : Option Value} {y0 : Value} {a : Nat} {m : jmM} {Q : Option Value → jmM → Prop} : AW d 154 5 [l0, l1] [y0, .ref a] m Q ↔ (mS m a).1 = 5 ∧ CC d 72 [.ref a, y0] m (jK d 154 8 [l0, l1] [] Q) := A_callV hB_X11_melt dX11_melt_5 hO_X11_melt fS_11_193 ⟨Nat.le_of_ble_eq_true rfl, Nat.le_of_ble_eq_true rfl⟩ rfl rfl rfl
theorem dX11_melt_8 : decode cX11_melt 8 = .ok (.ifCond .eq 14, 3) := by decide +kernel
theorem tX11_melt_8 {d : Nat} {l0 l1 : Option Value} {x : Int32} {m : jmM} {Q : Option Value → jmM → Prop} : AW d 154 8 [l0, l1] [.int x] m Q ↔ if x = 0 then AW d 154 22 [l0, l1] [] m Q else AW d 154 11 [l0, l1] [] m Q := A_if_eq hB_X11_melt dX11_melt_8 (by decide)
theorem dX11_melt_11 : decode cX11_melt 11 = .ok (.aload_n 0, 1) := by decide +kernel
theorem tX11_melt_11 {d : Nat} {l1 : Option Value} {x : Nat} {m : jmM} {Q : Option Value → jmM → Prop} : AW d 154 11 [some (.ref x), l1] [] m Q ↔ AW d 154 12 [some (.ref x), l1] [.ref x] m Q := A_aload_n hB_X11_melt dX11_melt_11 rfl
theorem dX11_melt_12 : decode cX11_melt 12 = .ok (.getfield 56, 3) := by decide +kernel
theorem tX11_melt_12 {d : Nat} {l0 l1 : Option Value} {a : Nat} {m : jmM} {Q : Option Value → jmM → Prop} : AW d 154 12 [l0, l1] [.ref a] m Q ↔ (mS m a).1 = 11 ∧ AW d 154 15 [l0, l1] [va_rf (mR m a 8)] m Q := A_getfield (f := fun m a => va_rf (mR m a 8)) hB_X11_melt dX11_melt_12 hO_X11_melt fF_11_56 rfl
theorem dX11_melt_15 : decode cX11_melt 15 = .ok (.iload_n 1, 1) := by decide +kernel
theorem tX11_melt_15 {d : Nat} {l0 : Option Value} {v0 : Value} {x : Int32} {m : jmM} {Q : Option Value → jmM → Prop} : AW d 154 15 [l0, some (.int x)] [v0] m Q ↔ AW d 154 16 [l0, some (.int x)] [.int x, v0] m Q := A_iload_n hB_X11_melt dX11_melt_15 rfl
theorem dX11_melt_16 : decode cX11_melt 16 = .ok (.invokevirtual 232, 3) := by decide +kernel
theorem tX11_melt_16 {d : Nat} {l0 l1 : Option Value} {y0 : Value} {a : Nat} {m : jmM} {Q : Option Value → jmM → Prop} : AW d 154 16 [l0, l1] [y0, .ref a] m Q ↔ (mS m a).1 = 5 ∧ CC d 60 [.ref a, y0] m (jK d 154 19 [l0, l1] [] Q) := A_callV hB_X11_melt dX11_melt_16 hO_X11_melt fS_11_232 ⟨Nat.le_of_ble_eq_true rfl, Nat.le_of_ble_eq_true rfl⟩ rfl rfl rfl
theorem dX11_melt_19 : decode cX11_melt 19 = .ok (.goto 4, 3) := by decide +kernel
theorem tX11_melt_19 {d : Nat} {l0 l1 : Option Value} {v0 : Value} {m : jmM} {Q : Option Value → jmM → Prop} : AW d 154 19 [l0, l1] [v0] m Q ↔ AW d 154 23 [l0, l1] [v0] m Q := A_goto hB_X11_melt dX11_melt_19 (by decide)
theorem dX11_melt_22 : decode cX11_melt 22 = .ok (.iconst (-1), 1) := by decide +kernel
theorem tX11_melt_22 {d : Nat} {l0 l1 : Option Value} {m : jmM} {Q : Option Value → jmM → Prop} : AW d 154 22 [l0, l1] [] m Q ↔ AW d 154 23 [l0, l1] [.int (-1)] m Q := A_iconst hB_X11_melt dX11_melt_22 (by decide)
theorem dX11_melt_23 : decode cX11_melt 23 = .ok (.ireturn, 1) := by decide +kernel
theorem tX11_melt_23 {d : Nat} {l0 l1 : Option Value} {x : Int32} {m : jmM} {Q : Option Value → jmM → Prop} : AW d 154 23 [l0, l1] [.int x] m Q ↔ Q (some (.int x)) m := A_ireturn hB_X11_melt dX11_melt_23 hR_X11_melt
theorem hB_X11_fault : jB 155 = cX11_fault := rfl
theorem hO_X11_fault : jO 155 = 11 := rfl
theorem hR_X11_fault : jRt 155 = (some .boolean) := rfl
theorem nX11_fault (d : Nat) (x0 : Nat) (x1 : Int32) (m : jmM) (Q : Option Value → jmM → Prop) : CC (d + 1) 155 [.ref x0, .int x1] m Q ↔ AW d 155 0 [some (.ref x0), some (.int x1)] [] m Q := CC_body (Nat.le_of_ble_eq_true rfl)
theorem dX11_fault_0 : decode cX11_fault 0 = .ok (.aload_n 0, 1) := by decide +kernel
theorem tX11_fault_0 {d : Nat} {l1 : Option Value} {x : Nat} {m : jmM} {Q : Option Value → jmM → Prop} : AW d 155 0 [some (.ref x), l1] [] m Q ↔ AW d 155 1 [some (.ref x), l1] [.ref x] m Q := A_aload_n hB_X11_fault dX11_fault_0 rfl
theorem dX11_fault_1 : decode cX11_fault 1 = .ok (.getfield 56, 3) := by decide +kernel
theorem tX11_fault_1 {d : Nat} {l0 l1 : Option Value} {a : Nat} {m : jmM} {Q : Option Value → jmM → Prop} : AW d 155 1 [l0, l1] [.ref a] m Q ↔ (mS m a).1 = 11 ∧ AW d 155 4 [l0, l1] [va_rf (mR m a 8)] m Q := A_getfield (f := fun m a => va_rf (mR m a 8)) hB_X11_fault dX11_fault_1 hO_X11_fault fF_11_56 rfl
theorem dX11_fault_4 : decode cX11_fault 4 = .ok (.iload_n 1, 1) := by decide +kernel
theorem tX11_fault_4 {d : Nat} {l0 : Option Value} {v0 : Value} {x : Int32} {m : jmM} {Q : Option Value → jmM → Prop} : AW d 155 4 [l0, some (.int x)] [v0] m Q ↔ AW d 155 5 [l0, some (.int x)] [.int x, v0] m Q := A_iload_n hB_X11_fault dX11_fault_4 rfl
theorem dX11_fault_5 : decode cX11_fault 5 = .ok (.invokevirtual 235, 3) := by decide +kernel
theorem tX11_fault_5 {d : Nat} {l0 l1 : Option Value} {y0 : Value} {a : Nat} {m : jmM} {Q : Option Value → jmM → Prop} : AW d 155 5 [l0, l1] [y0, .ref a] m Q ↔ (mS m a).1 = 5 ∧ CC d 61 [.ref a, y0] m (jK d 155 8 [l0, l1] [] Q) := A_callV hB_X11_fault dX11_fault_5 hO_X11_fault fS_11_235 ⟨Nat.le_of_ble_eq_true rfl, Nat.le_of_ble_eq_true rfl⟩ rfl rfl rfl
theorem dX11_fault_8 : decode cX11_fault 8 = .ok (.ireturn, 1) := by decide +kernel
theorem tX11_fault_8 {d : Nat} {l0 l1 : Option Value} {x : Int32} {m : jmM} {Q : Option Value → jmM → Prop} : AW d 155 8 [l0, l1] [.int x] m Q ↔ jBool x ∧ Q (some (.int x)) m := A_zreturn hB_X11_fault dX11_fault_8 hR_X11_fault
theorem hB_X11_thin : jB 156 = cX11_thin := rfl
theorem hO_X11_thin : jO 156 = 11 := rfl
theorem hR_X11_thin : jRt 156 = (some .int) := rfl
theorem nX11_thin (d : Nat) (x0 : Nat) (x1 : Int32) (m : jmM) (Q : Option Value → jmM → Prop) : CC (d + 1) 156 [.ref x0, .int x1] m Q ↔ AW d 156 0 [some (.ref x0), some (.int x1), none] [] m Q := CC_body (Nat.le_of_ble_eq_true rfl)
theorem dX11_thin_0 : decode cX11_thin 0 = .ok (.iload_n 1, 1) := by decide +kernel
theorem tX11_thin_0 {d : Nat} {l0 l2 : Option Value} {x : Int32} {m : jmM} {Q : Option Value → jmM → Prop} : AW d 156 0 [l0, some (.int x), l2] [] m Q ↔ AW d 156 1 [l0, some (.int x), l2] [.int x] m Q := A_iload_n hB_X11_thin dX11_thin_0 rfl
theorem dX11_thin_1 : decode cX11_thin 1 = .ok (.iconst 1, 1) := by decide +kernel
theorem tX11_thin_1 {d : Nat} {l0 l1 l2 : Option Value} {v0 : Value} {m : jmM} {Q : Option Value → jmM → Prop} : AW d 156 1 [l0, l1, l2] [v0] m Q ↔ AW d 156 2 [l0, l1, l2] [.int 1, v0] m Q := A_iconst hB_X11_thin dX11_thin_1 (by decide)
theorem dX11_thin_2 : decode cX11_thin 2 = .ok (.sipush 9999, 3) := by decide +kernel
theorem tX11_thin_2 {d : Nat} {l0 l1 l2 : Option Value} {v0 v1 : Value} {m : jmM} {Q : Option Value → jmM → Prop} : AW d 156 2 [l0, l1, l2] [v0, v1] m Q ↔ AW d 156 5 [l0, l1, l2] [.int 9999, v0, v1] m Q := A_sipush hB_X11_thin dX11_thin_2 rfl
theorem dX11_thin_5 : decode cX11_thin 5 = .ok (.invokestatic 128, 3) := by decide +kernel
theorem tX11_thin_5 {d : Nat} {l0 l1 l2 : Option Value} {y0 y1 y2 : Value} {m : jmM} {Q : Option Value → jmM → Prop} : AW d 156 5 [l0, l1, l2] [y0, y1, y2] m Q ↔ CC d 183 [y2, y1, y0] m (jK d 156 8 [l0, l1, l2] [] Q) := A_callS0 hB_X11_thin dX11_thin_5 hO_X11_thin fS_11_128 ⟨Nat.le_of_ble_eq_true rfl, Nat.le_of_ble_eq_true rfl⟩ rfl rfl
theorem dX11_thin_8 : decode cX11_thin 8 = .ok (.ifCond .ne 5, 3) := by decide +kernel
theorem tX11_thin_8 {d : Nat} {l0 l1 l2 : Option Value} {x : Int32} {m : jmM} {Q : Option Value → jmM → Prop} : AW d 156 8 [l0, l1, l2] [.int x] m Q ↔ if x = 0 then AW d 156 11 [l0, l1, l2] [] m Q else AW d 156 13 [l0, l1, l2] [] m Q := A_if_ne hB_X11_thin dX11_thin_8 (by decide)
theorem dX11_thin_11 : decode cX11_thin 11 = .ok (.iconst (-1), 1) := by decide +kernel
theorem tX11_thin_11 {d : Nat} {l0 l1 l2 : Option Value} {m : jmM} {Q : Option Value → jmM → Prop} : AW d 156 11 [l0, l1, l2] [] m Q ↔ AW d 156 12 [l0, l1, l2] [.int (-1)] m Q := A_iconst hB_X11_thin dX11_thin_11 (by decide)
theorem dX11_thin_12 : decode cX11_thin 12 = .ok (.ireturn, 1) := by decide +kernel
theorem tX11_thin_12 {d : Nat} {l0 l1 l2 : Option Value} {x : Int32} {m : jmM} {Q : Option Value → jmM → Prop} : AW d 156 12 [l0, l1, l2] [.int x] m Q ↔ Q (some (.int x)) m := A_ireturn hB_X11_thin dX11_thin_12 hR_X11_thin
theorem dX11_thin_13 : decode cX11_thin 13 = .ok (.aload_n 0, 1) := by decide +kernel
theorem tX11_thin_13 {d : Nat} {l1 l2 : Option Value} {x : Nat} {m : jmM} {Q : Option Value → jmM → Prop} : AW d 156 13 [some (.ref x), l1, l2] [] m Q ↔ AW d 156 14 [some (.ref x), l1, l2] [.ref x] m Q := A_aload_n hB_X11_thin dX11_thin_13 rfl
theorem dX11_thin_14 : decode cX11_thin 14 = .ok (.getfield 49, 3) := by decide +kernel
theorem tX11_thin_14 {d : Nat} {l0 l1 l2 : Option Value} {a : Nat} {m : jmM} {Q : Option Value → jmM → Prop} : AW d 156 14 [l0, l1, l2] [.ref a] m Q ↔ (mS m a).1 = 11 ∧ AW d 156 17 [l0, l1, l2] [.int (mI m a 7)] m Q := A_getfield (f := fun m a => .int (mI m a 7)) hB_X11_thin dX11_thin_14 hO_X11_thin fF_11_49 rfl
theorem dX11_thin_17 : decode cX11_thin 17 = .ok (.istore_n 2, 1) := by decide +kernel
theorem tX11_thin_17 {d : Nat} {l0 l1 l2 : Option Value} {x : Int32} {m : jmM} {Q : Option Value → jmM → Prop} : AW d 156 17 [l0, l1, l2] [.int x] m Q ↔ AW d 156 18 [l0, jc1 l1, some (.int x)] [] m Q := A_istore_n hB_X11_thin dX11_thin_17 (Nat.le_of_ble_eq_true rfl) rfl
theorem dX11_thin_18 : decode cX11_thin 18 = .ok (.aload_n 0, 1) := by decide +kernel
theorem tX11_thin_18 {d : Nat} {l1 l2 : Option Value} {x : Nat} {m : jmM} {Q : Option Value → jmM → Prop} : AW d 156 18 [some (.ref x), l1, l2] [] m Q ↔ AW d 156 19 [some (.ref x), l1, l2] [.ref x] m Q := A_aload_n hB_X11_thin dX11_thin_18 rfl
theorem dX11_thin_19 : decode cX11_thin 19 = .ok (.iload_n 1, 1) := by decide +kernel
theorem tX11_thin_19 {d : Nat} {l0 l2 : Option Value} {v0 : Value} {x : Int32} {m : jmM} {Q : Option Value → jmM → Prop} : AW d 156 19 [l0, some (.int x), l2] [v0] m Q ↔ AW d 156 20 [l0, some (.int x), l2] [.int x, v0] m Q := A_iload_n hB_X11_thin dX11_thin_19 rfl
theorem dX11_thin_20 : decode cX11_thin 20 = .ok (.putfield 49, 3) := by decide +kernel
theorem tX11_thin_20 {d : Nat} {l0 l1 l2 : Option Value} {x : Int32} {a : Nat} {m : jmM} {Q : Option Value → jmM → Prop} : AW d 156 20 [l0, l1, l2] [.int x, .ref a] m Q ↔ (mS m a).1 = 11 ∧ AW d 156 23 [l0, l1, l2] [] (cI m a (jup (mI m a) 7 x)) Q := A_putI hB_X11_thin dX11_thin_20 hO_X11_thin fF_11_49 rfl (fun h => Bool.noConfusion h)
theorem dX11_thin_23 : decode cX11_thin 23 = .ok (.iload_n 2, 1) := by decide +kernel
theorem tX11_thin_23 {d : Nat} {l0 l1 : Option Value} {x : Int32} {m : jmM} {Q : Option Value → jmM → Prop} : AW d 156 23 [l0, l1, some (.int x)] [] m Q ↔ AW d 156 24 [l0, l1, some (.int x)] [.int x] m Q := A_iload_n hB_X11_thin dX11_thin_23 rfl
theorem dX11_thin_24 : decode cX11_thin 24 = .ok (.ireturn, 1) := by decide +kernel
theorem tX11_thin_24 {d : Nat} {l0 l1 l2 : Option Value} {x : Int32} {m : jmM} {Q : Option Value → jmM → Prop} : AW d 156 24 [l0, l1, l2] [.int x] m Q ↔ Q (some (.int x)) m := A_ireturn hB_X11_thin dX11_thin_24 hR_X11_thin
theorem hB_X11_faults : jB 157 = cX11_faults := rfl
theorem hO_X11_faults : jO 157 = 11 := rfl
theorem hR_X11_faults : jRt 157 = (some .int) := rfl
theorem nX11_faults (d : Nat) (x0 : Nat) (m : jmM) (Q : Option Value → jmM → Prop) : CC (d + 1) 157 [.ref x0] m Q ↔ AW d 157 0 [some (.ref x0)] [] m Q := CC_body (Nat.le_of_ble_eq_true rfl)
theorem dX11_faults_0 : decode cX11_faults 0 = .ok (.aload_n 0, 1) := by decide +kernel
theorem tX11_faults_0 {d : Nat} {x : Nat} {m : jmM} {Q : Option Value → jmM → Prop} : AW d 157 0 [some (.ref x)] [] m Q ↔ AW d 157 1 [some (.ref x)] [.ref x] m Q := A_aload_n hB_X11_faults dX11_faults_0 rfl
theorem dX11_faults_1 : decode cX11_faults 1 = .ok (.getfield 56, 3) := by decide +kernel
theorem tX11_faults_1 {d : Nat} {l0 : Option Value} {a : Nat} {m : jmM} {Q : Option Value → jmM → Prop} : AW d 157 1 [l0] [.ref a] m Q ↔ (mS m a).1 = 11 ∧ AW d 157 4 [l0] [va_rf (mR m a 8)] m Q := A_getfield (f := fun m a => va_rf (mR m a 8)) hB_X11_faults dX11_faults_1 hO_X11_faults fF_11_56 rfl
theorem dX11_faults_4 : decode cX11_faults 4 = .ok (.invokevirtual 159, 3) := by decide +kernel
theorem tX11_faults_4 {d : Nat} {l0 : Option Value} {a : Nat} {m : jmM} {Q : Option Value → jmM → Prop} : AW d 157 4 [l0] [.ref a] m Q ↔ (mS m a).1 = 5 ∧ CC d 73 [.ref a] m (jK d 157 7 [l0] [] Q) := A_callV hB_X11_faults dX11_faults_4 hO_X11_faults fS_11_159 ⟨Nat.le_of_ble_eq_true rfl, Nat.le_of_ble_eq_true rfl⟩ rfl rfl rfl
theorem dX11_faults_7 : decode cX11_faults 7 = .ok (.ifCond .ne 7, 3) := by decide +kernel
theorem tX11_faults_7 {d : Nat} {l0 : Option Value} {x : Int32} {m : jmM} {Q : Option Value → jmM → Prop} : AW d 157 7 [l0] [.int x] m Q ↔ if x = 0 then AW d 157 10 [l0] [] m Q else AW d 157 14 [l0] [] m Q := A_if_ne hB_X11_faults dX11_faults_7 (by decide)
theorem dX11_faults_10 : decode cX11_faults 10 = .ok (.iconst (-1), 1) := by decide +kernel
theorem tX11_faults_10 {d : Nat} {l0 : Option Value} {m : jmM} {Q : Option Value → jmM → Prop} : AW d 157 10 [l0] [] m Q ↔ AW d 157 11 [l0] [.int (-1)] m Q := A_iconst hB_X11_faults dX11_faults_10 (by decide)
theorem dX11_faults_11 : decode cX11_faults 11 = .ok (.goto 14, 3) := by decide +kernel
theorem tX11_faults_11 {d : Nat} {l0 : Option Value} {v0 : Value} {m : jmM} {Q : Option Value → jmM → Prop} : AW d 157 11 [l0] [v0] m Q ↔ AW d 157 25 [l0] [v0] m Q := A_goto hB_X11_faults dX11_faults_11 (by decide)
theorem dX11_faults_14 : decode cX11_faults 14 = .ok (.aload_n 0, 1) := by decide +kernel
theorem tX11_faults_14 {d : Nat} {x : Nat} {m : jmM} {Q : Option Value → jmM → Prop} : AW d 157 14 [some (.ref x)] [] m Q ↔ AW d 157 15 [some (.ref x)] [.ref x] m Q := A_aload_n hB_X11_faults dX11_faults_14 rfl
theorem dX11_faults_15 : decode cX11_faults 15 = .ok (.getfield 56, 3) := by decide +kernel
theorem tX11_faults_15 {d : Nat} {l0 : Option Value} {a : Nat} {m : jmM} {Q : Option Value → jmM → Prop} : AW d 157 15 [l0] [.ref a] m Q ↔ (mS m a).1 = 11 ∧ AW d 157 18 [l0] [va_rf (mR m a 8)] m Q := A_getfield (f := fun m a => va_rf (mR m a 8)) hB_X11_faults dX11_faults_15 hO_X11_faults fF_11_56 rfl
theorem dX11_faults_18 : decode cX11_faults 18 = .ok (.aload_n 0, 1) := by decide +kernel
theorem tX11_faults_18 {d : Nat} {v0 : Value} {x : Nat} {m : jmM} {Q : Option Value → jmM → Prop} : AW d 157 18 [some (.ref x)] [v0] m Q ↔ AW d 157 19 [some (.ref x)] [.ref x, v0] m Q := A_aload_n hB_X11_faults dX11_faults_18 rfl
theorem dX11_faults_19 : decode cX11_faults 19 = .ok (.getfield 49, 3) := by decide +kernel
theorem tX11_faults_19 {d : Nat} {l0 : Option Value} {v1 : Value} {a : Nat} {m : jmM} {Q : Option Value → jmM → Prop} : AW d 157 19 [l0] [.ref a, v1] m Q ↔ (mS m a).1 = 11 ∧ AW d 157 22 [l0] [.int (mI m a 7), v1] m Q := A_getfield (f := fun m a => .int (mI m a 7)) hB_X11_faults dX11_faults_19 hO_X11_faults fF_11_49 rfl
theorem dX11_faults_22 : decode cX11_faults 22 = .ok (.invokevirtual 238, 3) := by decide +kernel
theorem tX11_faults_22 {d : Nat} {l0 : Option Value} {y0 : Value} {a : Nat} {m : jmM} {Q : Option Value → jmM → Prop} : AW d 157 22 [l0] [y0, .ref a] m Q ↔ (mS m a).1 = 5 ∧ CC d 64 [.ref a, y0] m (jK d 157 25 [l0] [] Q) := A_callV hB_X11_faults dX11_faults_22 hO_X11_faults fS_11_238 ⟨Nat.le_of_ble_eq_true rfl, Nat.le_of_ble_eq_true rfl⟩ rfl rfl rfl
theorem dX11_faults_25 : decode cX11_faults 25 = .ok (.ireturn, 1) := by decide +kernel
theorem tX11_faults_25 {d : Nat} {l0 : Option Value} {x : Int32} {m : jmM} {Q : Option Value → jmM → Prop} : AW d 157 25 [l0] [.int x] m Q ↔ Q (some (.int x)) m := A_ireturn hB_X11_faults dX11_faults_25 hR_X11_faults
theorem hB_X11_holds : jB 158 = cX11_holds := rfl
theorem hO_X11_holds : jO 158 = 11 := rfl
theorem hR_X11_holds : jRt 158 = (some .int) := rfl
theorem nX11_holds (d : Nat) (x0 : Nat) (m : jmM) (Q : Option Value → jmM → Prop) : CC (d + 1) 158 [.ref x0] m Q ↔ AW d 158 0 [some (.ref x0)] [] m Q := CC_body (Nat.le_of_ble_eq_true rfl)
theorem dX11_holds_0 : decode cX11_holds 0 = .ok (.aload_n 0, 1) := by decide +kernel
theorem tX11_holds_0 {d : Nat} {x : Nat} {m : jmM} {Q : Option Value → jmM → Prop} : AW d 158 0 [some (.ref x)] [] m Q ↔ AW d 158 1 [some (.ref x)] [.ref x] m Q := A_aload_n hB_X11_holds dX11_holds_0 rfl
theorem dX11_holds_1 : decode cX11_holds 1 = .ok (.getfield 56, 3) := by decide +kernel
theorem tX11_holds_1 {d : Nat} {l0 : Option Value} {a : Nat} {m : jmM} {Q : Option Value → jmM → Prop} : AW d 158 1 [l0] [.ref a] m Q ↔ (mS m a).1 = 11 ∧ AW d 158 4 [l0] [va_rf (mR m a 8)] m Q := A_getfield (f := fun m a => va_rf (mR m a 8)) hB_X11_holds dX11_holds_1 hO_X11_holds fF_11_56 rfl
theorem dX11_holds_4 : decode cX11_holds 4 = .ok (.invokevirtual 159, 3) := by decide +kernel
theorem tX11_holds_4 {d : Nat} {l0 : Option Value} {a : Nat} {m : jmM} {Q : Option Value → jmM → Prop} : AW d 158 4 [l0] [.ref a] m Q ↔ (mS m a).1 = 5 ∧ CC d 73 [.ref a] m (jK d 158 7 [l0] [] Q) := A_callV hB_X11_holds dX11_holds_4 hO_X11_holds fS_11_159 ⟨Nat.le_of_ble_eq_true rfl, Nat.le_of_ble_eq_true rfl⟩ rfl rfl rfl
theorem dX11_holds_7 : decode cX11_holds 7 = .ok (.ifCond .ne 7, 3) := by decide +kernel
theorem tX11_holds_7 {d : Nat} {l0 : Option Value} {x : Int32} {m : jmM} {Q : Option Value → jmM → Prop} : AW d 158 7 [l0] [.int x] m Q ↔ if x = 0 then AW d 158 10 [l0] [] m Q else AW d 158 14 [l0] [] m Q := A_if_ne hB_X11_holds dX11_holds_7 (by decide)
theorem dX11_holds_10 : decode cX11_holds 10 = .ok (.iconst (-1), 1) := by decide +kernel
theorem tX11_holds_10 {d : Nat} {l0 : Option Value} {m : jmM} {Q : Option Value → jmM → Prop} : AW d 158 10 [l0] [] m Q ↔ AW d 158 11 [l0] [.int (-1)] m Q := A_iconst hB_X11_holds dX11_holds_10 (by decide)
theorem dX11_holds_11 : decode cX11_holds 11 = .ok (.goto 14, 3) := by decide +kernel
theorem tX11_holds_11 {d : Nat} {l0 : Option Value} {v0 : Value} {m : jmM} {Q : Option Value → jmM → Prop} : AW d 158 11 [l0] [v0] m Q ↔ AW d 158 25 [l0] [v0] m Q := A_goto hB_X11_holds dX11_holds_11 (by decide)
theorem dX11_holds_14 : decode cX11_holds 14 = .ok (.aload_n 0, 1) := by decide +kernel
theorem tX11_holds_14 {d : Nat} {x : Nat} {m : jmM} {Q : Option Value → jmM → Prop} : AW d 158 14 [some (.ref x)] [] m Q ↔ AW d 158 15 [some (.ref x)] [.ref x] m Q := A_aload_n hB_X11_holds dX11_holds_14 rfl
theorem dX11_holds_15 : decode cX11_holds 15 = .ok (.getfield 56, 3) := by decide +kernel
theorem tX11_holds_15 {d : Nat} {l0 : Option Value} {a : Nat} {m : jmM} {Q : Option Value → jmM → Prop} : AW d 158 15 [l0] [.ref a] m Q ↔ (mS m a).1 = 11 ∧ AW d 158 18 [l0] [va_rf (mR m a 8)] m Q := A_getfield (f := fun m a => va_rf (mR m a 8)) hB_X11_holds dX11_holds_15 hO_X11_holds fF_11_56 rfl
theorem dX11_holds_18 : decode cX11_holds 18 = .ok (.aload_n 0, 1) := by decide +kernel
theorem tX11_holds_18 {d : Nat} {v0 : Value} {x : Nat} {m : jmM} {Q : Option Value → jmM → Prop} : AW d 158 18 [some (.ref x)] [v0] m Q ↔ AW d 158 19 [some (.ref x)] [.ref x, v0] m Q := A_aload_n hB_X11_holds dX11_holds_18 rfl
theorem dX11_holds_19 : decode cX11_holds 19 = .ok (.getfield 49, 3) := by decide +kernel
theorem tX11_holds_19 {d : Nat} {l0 : Option Value} {v1 : Value} {a : Nat} {m : jmM} {Q : Option Value → jmM → Prop} : AW d 158 19 [l0] [.ref a, v1] m Q ↔ (mS m a).1 = 11 ∧ AW d 158 22 [l0] [.int (mI m a 7), v1] m Q := A_getfield (f := fun m a => .int (mI m a 7)) hB_X11_holds dX11_holds_19 hO_X11_holds fF_11_49 rfl
theorem dX11_holds_22 : decode cX11_holds 22 = .ok (.invokevirtual 241, 3) := by decide +kernel
theorem tX11_holds_22 {d : Nat} {l0 : Option Value} {y0 : Value} {a : Nat} {m : jmM} {Q : Option Value → jmM → Prop} : AW d 158 22 [l0] [y0, .ref a] m Q ↔ (mS m a).1 = 5 ∧ CC d 65 [.ref a, y0] m (jK d 158 25 [l0] [] Q) := A_callV hB_X11_holds dX11_holds_22 hO_X11_holds fS_11_241 ⟨Nat.le_of_ble_eq_true rfl, Nat.le_of_ble_eq_true rfl⟩ rfl rfl rfl
theorem dX11_holds_25 : decode cX11_holds 25 = .ok (.ireturn, 1) := by decide +kernel
theorem tX11_holds_25 {d : Nat} {l0 : Option Value} {x : Int32} {m : jmM} {Q : Option Value → jmM → Prop} : AW d 158 25 [l0] [.int x] m Q ↔ Q (some (.int x)) m := A_ireturn hB_X11_holds dX11_holds_25 hR_X11_holds
theorem hB_X11_want : jB 159 = cX11_want := rfl
theorem hO_X11_want : jO 159 = 11 := rfl
theorem hR_X11_want : jRt 159 = (some .int) := rfl
theorem nX11_want (d : Nat) (x0 : Nat) (x1 : Int32) (x2 : Int32) (x3 : Int32) (x4 : Int32) (x5 : Int32) (x6 : Int32) (m : jmM) (Q : Option Value → jmM → Prop) : CC (d + 1) 159 [.ref x0, .int x1, .int x2, .int x3, .int x4, .int x5, .int x6] m Q ↔ AW d 159 0 [some (.ref x0), some (.int x1), some (.int x2), some (.int x3), some (.int x4), some (.int x5), some (.int x6)] [] m Q := CC_body (Nat.le_of_ble_eq_true rfl)
theorem dX11_want_0 : decode cX11_want 0 = .ok (.aload_n 0, 1) := by decide +kernel
theorem tX11_want_0 {d : Nat} {l1 l2 l3 l4 l5 l6 : Option Value} {x : Nat} {m : jmM} {Q : Option Value → jmM → Prop} : AW d 159 0 [some (.ref x), l1, l2, l3, l4, l5, l6] [] m Q ↔ AW d 159 1 [some (.ref x), l1, l2, l3, l4, l5, l6] [.ref x] m Q := A_aload_n hB_X11_want dX11_want_0 rfl
theorem dX11_want_1 : decode cX11_want 1 = .ok (.getfield 75, 3) := by decide +kernel
theorem tX11_want_1 {d : Nat} {l0 l1 l2 l3 l4 l5 l6 : Option Value} {a : Nat} {m : jmM} {Q : Option Value → jmM → Prop} : AW d 159 1 [l0, l1, l2, l3, l4, l5, l6] [.ref a] m Q ↔ (mS m a).1 = 11 ∧ AW d 159 4 [l0, l1, l2, l3, l4, l5, l6] [.int (mI m a 12)] m Q := A_getfield (f := fun m a => .int (mI m a 12)) hB_X11_want dX11_want_1 hO_X11_want fF_11_75 rfl
theorem dX11_want_4 : decode cX11_want 4 = .ok (.bipush 8, 2) := by decide +kernel
theorem tX11_want_4 {d : Nat} {l0 l1 l2 l3 l4 l5 l6 : Option Value} {v0 : Value} {m : jmM} {Q : Option Value → jmM → Prop} : AW d 159 4 [l0, l1, l2, l3, l4, l5, l6] [v0] m Q ↔ AW d 159 6 [l0, l1, l2, l3, l4, l5, l6] [.int 8, v0] m Q := A_bipush hB_X11_want dX11_want_4 rfl
theorem dX11_want_6 : decode cX11_want 6 = .ok (.if_icmp .ge 18, 3) := by decide +kernel
theorem tX11_want_6 {d : Nat} {l0 l1 l2 l3 l4 l5 l6 : Option Value} {x y : Int32} {m : jmM} {Q : Option Value → jmM → Prop} : AW d 159 6 [l0, l1, l2, l3, l4, l5, l6] [.int y, .int x] m Q ↔ if y ≤ x then AW d 159 24 [l0, l1, l2, l3, l4, l5, l6] [] m Q else AW d 159 9 [l0, l1, l2, l3, l4, l5, l6] [] m Q := A_icmp_ge hB_X11_want dX11_want_6 (by decide)
theorem dX11_want_9 : decode cX11_want 9 = .ok (.iload_n 1, 1) := by decide +kernel
theorem tX11_want_9 {d : Nat} {l0 l2 l3 l4 l5 l6 : Option Value} {x : Int32} {m : jmM} {Q : Option Value → jmM → Prop} : AW d 159 9 [l0, some (.int x), l2, l3, l4, l5, l6] [] m Q ↔ AW d 159 10 [l0, some (.int x), l2, l3, l4, l5, l6] [.int x] m Q := A_iload_n hB_X11_want dX11_want_9 rfl
theorem dX11_want_10 : decode cX11_want 10 = .ok (.invokestatic 123, 3) := by decide +kernel
theorem tX11_want_10 {d : Nat} {l0 l1 l2 l3 l4 l5 l6 : Option Value} {y0 : Value} {m : jmM} {Q : Option Value → jmM → Prop} : AW d 159 10 [l0, l1, l2, l3, l4, l5, l6] [y0] m Q ↔ CC d 182 [y0] m (jK d 159 13 [l0, l1, l2, l3, l4, l5, l6] [] Q) := A_callS0 hB_X11_want dX11_want_10 hO_X11_want fS_11_123 ⟨Nat.le_of_ble_eq_true rfl, Nat.le_of_ble_eq_true rfl⟩ rfl rfl
theorem dX11_want_13 : decode cX11_want 13 = .ok (.ifCond .eq 11, 3) := by decide +kernel
theorem tX11_want_13 {d : Nat} {l0 l1 l2 l3 l4 l5 l6 : Option Value} {x : Int32} {m : jmM} {Q : Option Value → jmM → Prop} : AW d 159 13 [l0, l1, l2, l3, l4, l5, l6] [.int x] m Q ↔ if x = 0 then AW d 159 24 [l0, l1, l2, l3, l4, l5, l6] [] m Q else AW d 159 16 [l0, l1, l2, l3, l4, l5, l6] [] m Q := A_if_eq hB_X11_want dX11_want_13 (by decide)
theorem dX11_want_16 : decode cX11_want 16 = .ok (.iload_n 2, 1) := by decide +kernel
theorem tX11_want_16 {d : Nat} {l0 l1 l3 l4 l5 l6 : Option Value} {x : Int32} {m : jmM} {Q : Option Value → jmM → Prop} : AW d 159 16 [l0, l1, some (.int x), l3, l4, l5, l6] [] m Q ↔ AW d 159 17 [l0, l1, some (.int x), l3, l4, l5, l6] [.int x] m Q := A_iload_n hB_X11_want dX11_want_16 rfl
theorem dX11_want_17 : decode cX11_want 17 = .ok (.iload_n 3, 1) := by decide +kernel
theorem tX11_want_17 {d : Nat} {l0 l1 l2 l4 l5 l6 : Option Value} {v0 : Value} {x : Int32} {m : jmM} {Q : Option Value → jmM → Prop} : AW d 159 17 [l0, l1, l2, some (.int x), l4, l5, l6] [v0] m Q ↔ AW d 159 18 [l0, l1, l2, some (.int x), l4, l5, l6] [.int x, v0] m Q := A_iload_n hB_X11_want dX11_want_17 rfl
theorem dX11_want_18 : decode cX11_want 18 = .ok (.invokestatic 244, 3) := by decide +kernel
theorem tX11_want_18 {d : Nat} {l0 l1 l2 l3 l4 l5 l6 : Option Value} {y0 y1 : Value} {m : jmM} {Q : Option Value → jmM → Prop} : AW d 159 18 [l0, l1, l2, l3, l4, l5, l6] [y0, y1] m Q ↔ CC d 184 [y1, y0] m (jK d 159 21 [l0, l1, l2, l3, l4, l5, l6] [] Q) := A_callS0 hB_X11_want dX11_want_18 hO_X11_want fS_11_244 ⟨Nat.le_of_ble_eq_true rfl, Nat.le_of_ble_eq_true rfl⟩ rfl rfl
theorem dX11_want_21 : decode cX11_want 21 = .ok (.ifCond .ne 5, 3) := by decide +kernel
theorem tX11_want_21 {d : Nat} {l0 l1 l2 l3 l4 l5 l6 : Option Value} {x : Int32} {m : jmM} {Q : Option Value → jmM → Prop} : AW d 159 21 [l0, l1, l2, l3, l4, l5, l6] [.int x] m Q ↔ if x = 0 then AW d 159 24 [l0, l1, l2, l3, l4, l5, l6] [] m Q else AW d 159 26 [l0, l1, l2, l3, l4, l5, l6] [] m Q := A_if_ne hB_X11_want dX11_want_21 (by decide)
theorem dX11_want_24 : decode cX11_want 24 = .ok (.iconst (-1), 1) := by decide +kernel
theorem tX11_want_24 {d : Nat} {l0 l1 l2 l3 l4 l5 l6 : Option Value} {m : jmM} {Q : Option Value → jmM → Prop} : AW d 159 24 [l0, l1, l2, l3, l4, l5, l6] [] m Q ↔ AW d 159 25 [l0, l1, l2, l3, l4, l5, l6] [.int (-1)] m Q := A_iconst hB_X11_want dX11_want_24 (by decide)
theorem dX11_want_25 : decode cX11_want 25 = .ok (.ireturn, 1) := by decide +kernel
theorem tX11_want_25 {d : Nat} {l0 l1 l2 l3 l4 l5 l6 : Option Value} {x : Int32} {m : jmM} {Q : Option Value → jmM → Prop} : AW d 159 25 [l0, l1, l2, l3, l4, l5, l6] [.int x] m Q ↔ Q (some (.int x)) m := A_ireturn hB_X11_want dX11_want_25 hR_X11_want
theorem dX11_want_26 : decode cX11_want 26 = .ok (.iload 4, 2) := by decide +kernel
theorem tX11_want_26 {d : Nat} {l0 l1 l2 l3 l5 l6 : Option Value} {x : Int32} {m : jmM} {Q : Option Value → jmM → Prop} : AW d 159 26 [l0, l1, l2, l3, some (.int x), l5, l6] [] m Q ↔ AW d 159 28 [l0, l1, l2, l3, some (.int x), l5, l6] [.int x] m Q := A_iload hB_X11_want dX11_want_26 rfl
theorem dX11_want_28 : decode cX11_want 28 = .ok (.iconst 0, 1) := by decide +kernel
theorem tX11_want_28 {d : Nat} {l0 l1 l2 l3 l4 l5 l6 : Option Value} {v0 : Value} {m : jmM} {Q : Option Value → jmM → Prop} : AW d 159 28 [l0, l1, l2, l3, l4, l5, l6] [v0] m Q ↔ AW d 159 29 [l0, l1, l2, l3, l4, l5, l6] [.int 0, v0] m Q := A_iconst hB_X11_want dX11_want_28 (by decide)
theorem dX11_want_29 : decode cX11_want 29 = .ok (.sipush 9999, 3) := by decide +kernel
theorem tX11_want_29 {d : Nat} {l0 l1 l2 l3 l4 l5 l6 : Option Value} {v0 v1 : Value} {m : jmM} {Q : Option Value → jmM → Prop} : AW d 159 29 [l0, l1, l2, l3, l4, l5, l6] [v0, v1] m Q ↔ AW d 159 32 [l0, l1, l2, l3, l4, l5, l6] [.int 9999, v0, v1] m Q := A_sipush hB_X11_want dX11_want_29 rfl
theorem dX11_want_32 : decode cX11_want 32 = .ok (.invokestatic 128, 3) := by decide +kernel
theorem tX11_want_32 {d : Nat} {l0 l1 l2 l3 l4 l5 l6 : Option Value} {y0 y1 y2 : Value} {m : jmM} {Q : Option Value → jmM → Prop} : AW d 159 32 [l0, l1, l2, l3, l4, l5, l6] [y0, y1, y2] m Q ↔ CC d 183 [y2, y1, y0] m (jK d 159 35 [l0, l1, l2, l3, l4, l5, l6] [] Q) := A_callS0 hB_X11_want dX11_want_32 hO_X11_want fS_11_128 ⟨Nat.le_of_ble_eq_true rfl, Nat.le_of_ble_eq_true rfl⟩ rfl rfl
theorem dX11_want_35 : decode cX11_want 35 = .ok (.ifCond .eq 27, 3) := by decide +kernel
theorem tX11_want_35 {d : Nat} {l0 l1 l2 l3 l4 l5 l6 : Option Value} {x : Int32} {m : jmM} {Q : Option Value → jmM → Prop} : AW d 159 35 [l0, l1, l2, l3, l4, l5, l6] [.int x] m Q ↔ if x = 0 then AW d 159 62 [l0, l1, l2, l3, l4, l5, l6] [] m Q else AW d 159 38 [l0, l1, l2, l3, l4, l5, l6] [] m Q := A_if_eq hB_X11_want dX11_want_35 (by decide)
theorem dX11_want_38 : decode cX11_want 38 = .ok (.iload 5, 2) := by decide +kernel
theorem tX11_want_38 {d : Nat} {l0 l1 l2 l3 l4 l6 : Option Value} {x : Int32} {m : jmM} {Q : Option Value → jmM → Prop} : AW d 159 38 [l0, l1, l2, l3, l4, some (.int x), l6] [] m Q ↔ AW d 159 40 [l0, l1, l2, l3, l4, some (.int x), l6] [.int x] m Q := A_iload hB_X11_want dX11_want_38 rfl
theorem dX11_want_40 : decode cX11_want 40 = .ok (.iconst 1, 1) := by decide +kernel
theorem tX11_want_40 {d : Nat} {l0 l1 l2 l3 l4 l5 l6 : Option Value} {v0 : Value} {m : jmM} {Q : Option Value → jmM → Prop} : AW d 159 40 [l0, l1, l2, l3, l4, l5, l6] [v0] m Q ↔ AW d 159 41 [l0, l1, l2, l3, l4, l5, l6] [.int 1, v0] m Q := A_iconst hB_X11_want dX11_want_40 (by decide)
theorem dX11_want_41 : decode cX11_want 41 = .ok (.sipush 9999, 3) := by decide +kernel
theorem tX11_want_41 {d : Nat} {l0 l1 l2 l3 l4 l5 l6 : Option Value} {v0 v1 : Value} {m : jmM} {Q : Option Value → jmM → Prop} : AW d 159 41 [l0, l1, l2, l3, l4, l5, l6] [v0, v1] m Q ↔ AW d 159 44 [l0, l1, l2, l3, l4, l5, l6] [.int 9999, v0, v1] m Q := A_sipush hB_X11_want dX11_want_41 rfl
theorem dX11_want_44 : decode cX11_want 44 = .ok (.invokestatic 128, 3) := by decide +kernel
theorem tX11_want_44 {d : Nat} {l0 l1 l2 l3 l4 l5 l6 : Option Value} {y0 y1 y2 : Value} {m : jmM} {Q : Option Value → jmM → Prop} : AW d 159 44 [l0, l1, l2, l3, l4, l5, l6] [y0, y1, y2] m Q ↔ CC d 183 [y2, y1, y0] m (jK d 159 47 [l0, l1, l2, l3, l4, l5, l6] [] Q) := A_callS0 hB_X11_want dX11_want_44 hO_X11_want fS_11_128 ⟨Nat.le_of_ble_eq_true rfl, Nat.le_of_ble_eq_true rfl⟩ rfl rfl
theorem dX11_want_47 : decode cX11_want 47 = .ok (.ifCond .eq 15, 3) := by decide +kernel
theorem tX11_want_47 {d : Nat} {l0 l1 l2 l3 l4 l5 l6 : Option Value} {x : Int32} {m : jmM} {Q : Option Value → jmM → Prop} : AW d 159 47 [l0, l1, l2, l3, l4, l5, l6] [.int x] m Q ↔ if x = 0 then AW d 159 62 [l0, l1, l2, l3, l4, l5, l6] [] m Q else AW d 159 50 [l0, l1, l2, l3, l4, l5, l6] [] m Q := A_if_eq hB_X11_want dX11_want_47 (by decide)
theorem dX11_want_50 : decode cX11_want 50 = .ok (.iload 6, 2) := by decide +kernel
theorem tX11_want_50 {d : Nat} {l0 l1 l2 l3 l4 l5 : Option Value} {x : Int32} {m : jmM} {Q : Option Value → jmM → Prop} : AW d 159 50 [l0, l1, l2, l3, l4, l5, some (.int x)] [] m Q ↔ AW d 159 52 [l0, l1, l2, l3, l4, l5, some (.int x)] [.int x] m Q := A_iload hB_X11_want dX11_want_50 rfl
theorem dX11_want_52 : decode cX11_want 52 = .ok (.iconst 1, 1) := by decide +kernel
theorem tX11_want_52 {d : Nat} {l0 l1 l2 l3 l4 l5 l6 : Option Value} {v0 : Value} {m : jmM} {Q : Option Value → jmM → Prop} : AW d 159 52 [l0, l1, l2, l3, l4, l5, l6] [v0] m Q ↔ AW d 159 53 [l0, l1, l2, l3, l4, l5, l6] [.int 1, v0] m Q := A_iconst hB_X11_want dX11_want_52 (by decide)
theorem dX11_want_53 : decode cX11_want 53 = .ok (.sipush 999, 3) := by decide +kernel
theorem tX11_want_53 {d : Nat} {l0 l1 l2 l3 l4 l5 l6 : Option Value} {v0 v1 : Value} {m : jmM} {Q : Option Value → jmM → Prop} : AW d 159 53 [l0, l1, l2, l3, l4, l5, l6] [v0, v1] m Q ↔ AW d 159 56 [l0, l1, l2, l3, l4, l5, l6] [.int 999, v0, v1] m Q := A_sipush hB_X11_want dX11_want_53 rfl
theorem dX11_want_56 : decode cX11_want 56 = .ok (.invokestatic 128, 3) := by decide +kernel
theorem tX11_want_56 {d : Nat} {l0 l1 l2 l3 l4 l5 l6 : Option Value} {y0 y1 y2 : Value} {m : jmM} {Q : Option Value → jmM → Prop} : AW d 159 56 [l0, l1, l2, l3, l4, l5, l6] [y0, y1, y2] m Q ↔ CC d 183 [y2, y1, y0] m (jK d 159 59 [l0, l1, l2, l3, l4, l5, l6] [] Q) := A_callS0 hB_X11_want dX11_want_56 hO_X11_want fS_11_128 ⟨Nat.le_of_ble_eq_true rfl, Nat.le_of_ble_eq_true rfl⟩ rfl rfl
theorem dX11_want_59 : decode cX11_want 59 = .ok (.ifCond .ne 5, 3) := by decide +kernel
theorem tX11_want_59 {d : Nat} {l0 l1 l2 l3 l4 l5 l6 : Option Value} {x : Int32} {m : jmM} {Q : Option Value → jmM → Prop} : AW d 159 59 [l0, l1, l2, l3, l4, l5, l6] [.int x] m Q ↔ if x = 0 then AW d 159 62 [l0, l1, l2, l3, l4, l5, l6] [] m Q else AW d 159 64 [l0, l1, l2, l3, l4, l5, l6] [] m Q := A_if_ne hB_X11_want dX11_want_59 (by decide)
theorem dX11_want_62 : decode cX11_want 62 = .ok (.iconst (-1), 1) := by decide +kernel
theorem tX11_want_62 {d : Nat} {l0 l1 l2 l3 l4 l5 l6 : Option Value} {m : jmM} {Q : Option Value → jmM → Prop} : AW d 159 62 [l0, l1, l2, l3, l4, l5, l6] [] m Q ↔ AW d 159 63 [l0, l1, l2, l3, l4, l5, l6] [.int (-1)] m Q := A_iconst hB_X11_want dX11_want_62 (by decide)
theorem dX11_want_63 : decode cX11_want 63 = .ok (.ireturn, 1) := by decide +kernel
theorem tX11_want_63 {d : Nat} {l0 l1 l2 l3 l4 l5 l6 : Option Value} {x : Int32} {m : jmM} {Q : Option Value → jmM → Prop} : AW d 159 63 [l0, l1, l2, l3, l4, l5, l6] [.int x] m Q ↔ Q (some (.int x)) m := A_ireturn hB_X11_want dX11_want_63 hR_X11_want
theorem dX11_want_64 : decode cX11_want 64 = .ok (.aload_n 0, 1) := by decide +kernel
theorem tX11_want_64 {d : Nat} {l1 l2 l3 l4 l5 l6 : Option Value} {x : Nat} {m : jmM} {Q : Option Value → jmM → Prop} : AW d 159 64 [some (.ref x), l1, l2, l3, l4, l5, l6] [] m Q ↔ AW d 159 65 [some (.ref x), l1, l2, l3, l4, l5, l6] [.ref x] m Q := A_aload_n hB_X11_want dX11_want_64 rfl
theorem dX11_want_65 : decode cX11_want 65 = .ok (.getfield 71, 3) := by decide +kernel
theorem tX11_want_65 {d : Nat} {l0 l1 l2 l3 l4 l5 l6 : Option Value} {a : Nat} {m : jmM} {Q : Option Value → jmM → Prop} : AW d 159 65 [l0, l1, l2, l3, l4, l5, l6] [.ref a] m Q ↔ (mS m a).1 = 11 ∧ AW d 159 68 [l0, l1, l2, l3, l4, l5, l6] [va_rf (mR m a 11)] m Q := A_getfield (f := fun m a => va_rf (mR m a 11)) hB_X11_want dX11_want_65 hO_X11_want fF_11_71 rfl
theorem dX11_want_68 : decode cX11_want 68 = .ok (.aload_n 0, 1) := by decide +kernel
theorem tX11_want_68 {d : Nat} {l1 l2 l3 l4 l5 l6 : Option Value} {v0 : Value} {x : Nat} {m : jmM} {Q : Option Value → jmM → Prop} : AW d 159 68 [some (.ref x), l1, l2, l3, l4, l5, l6] [v0] m Q ↔ AW d 159 69 [some (.ref x), l1, l2, l3, l4, l5, l6] [.ref x, v0] m Q := A_aload_n hB_X11_want dX11_want_68 rfl
theorem dX11_want_69 : decode cX11_want 69 = .ok (.getfield 75, 3) := by decide +kernel
theorem tX11_want_69 {d : Nat} {l0 l1 l2 l3 l4 l5 l6 : Option Value} {v1 : Value} {a : Nat} {m : jmM} {Q : Option Value → jmM → Prop} : AW d 159 69 [l0, l1, l2, l3, l4, l5, l6] [.ref a, v1] m Q ↔ (mS m a).1 = 11 ∧ AW d 159 72 [l0, l1, l2, l3, l4, l5, l6] [.int (mI m a 12), v1] m Q := A_getfield (f := fun m a => .int (mI m a 12)) hB_X11_want dX11_want_69 hO_X11_want fF_11_75 rfl
theorem dX11_want_72 : decode cX11_want 72 = .ok (.aaload, 1) := by decide +kernel
theorem tX11_want_72 {d : Nat} {l0 l1 l2 l3 l4 l5 l6 : Option Value} {i : Int32} {a : Nat} {m : jmM} {Q : Option Value → jmM → Prop} : AW d 159 72 [l0, l1, l2, l3, l4, l5, l6] [.int i, .ref a] m Q ↔ (24 ≤ (mS m a).1 ∧ (mS m a).1 ≤ 26 ∧ jIx i (mS m a).2) ∧ AW d 159 73 [l0, l1, l2, l3, l4, l5, l6] [va_rf (mR m a (jx i))] m Q := A_aaload hB_X11_want dX11_want_72
theorem dX11_want_73 : decode cX11_want 73 = .ok (.iload_n 1, 1) := by decide +kernel
theorem tX11_want_73 {d : Nat} {l0 l2 l3 l4 l5 l6 : Option Value} {v0 : Value} {x : Int32} {m : jmM} {Q : Option Value → jmM → Prop} : AW d 159 73 [l0, some (.int x), l2, l3, l4, l5, l6] [v0] m Q ↔ AW d 159 74 [l0, some (.int x), l2, l3, l4, l5, l6] [.int x, v0] m Q := A_iload_n hB_X11_want dX11_want_73 rfl
theorem dX11_want_74 : decode cX11_want 74 = .ok (.iload_n 2, 1) := by decide +kernel
theorem tX11_want_74 {d : Nat} {l0 l1 l3 l4 l5 l6 : Option Value} {v0 v1 : Value} {x : Int32} {m : jmM} {Q : Option Value → jmM → Prop} : AW d 159 74 [l0, l1, some (.int x), l3, l4, l5, l6] [v0, v1] m Q ↔ AW d 159 75 [l0, l1, some (.int x), l3, l4, l5, l6] [.int x, v0, v1] m Q := A_iload_n hB_X11_want dX11_want_74 rfl
theorem dX11_want_75 : decode cX11_want 75 = .ok (.iload_n 3, 1) := by decide +kernel
theorem tX11_want_75 {d : Nat} {l0 l1 l2 l4 l5 l6 : Option Value} {v0 v1 v2 : Value} {x : Int32} {m : jmM} {Q : Option Value → jmM → Prop} : AW d 159 75 [l0, l1, l2, some (.int x), l4, l5, l6] [v0, v1, v2] m Q ↔ AW d 159 76 [l0, l1, l2, some (.int x), l4, l5, l6] [.int x, v0, v1, v2] m Q := A_iload_n hB_X11_want dX11_want_75 rfl
theorem dX11_want_76 : decode cX11_want 76 = .ok (.iload 4, 2) := by decide +kernel
theorem tX11_want_76 {d : Nat} {l0 l1 l2 l3 l5 l6 : Option Value} {v0 v1 v2 v3 : Value} {x : Int32} {m : jmM} {Q : Option Value → jmM → Prop} : AW d 159 76 [l0, l1, l2, l3, some (.int x), l5, l6] [v0, v1, v2, v3] m Q ↔ AW d 159 78 [l0, l1, l2, l3, some (.int x), l5, l6] [.int x, v0, v1, v2, v3] m Q := A_iload hB_X11_want dX11_want_76 rfl
theorem dX11_want_78 : decode cX11_want 78 = .ok (.iload 5, 2) := by decide +kernel
theorem tX11_want_78 {d : Nat} {l0 l1 l2 l3 l4 l6 : Option Value} {v0 v1 v2 v3 v4 : Value} {x : Int32} {m : jmM} {Q : Option Value → jmM → Prop} : AW d 159 78 [l0, l1, l2, l3, l4, some (.int x), l6] [v0, v1, v2, v3, v4] m Q ↔ AW d 159 80 [l0, l1, l2, l3, l4, some (.int x), l6] [.int x, v0, v1, v2, v3, v4] m Q := A_iload hB_X11_want dX11_want_78 rfl
theorem dX11_want_80 : decode cX11_want 80 = .ok (.iload 6, 2) := by decide +kernel
theorem tX11_want_80 {d : Nat} {l0 l1 l2 l3 l4 l5 : Option Value} {v0 v1 v2 v3 v4 v5 : Value} {x : Int32} {m : jmM} {Q : Option Value → jmM → Prop} : AW d 159 80 [l0, l1, l2, l3, l4, l5, some (.int x)] [v0, v1, v2, v3, v4, v5] m Q ↔ AW d 159 82 [l0, l1, l2, l3, l4, l5, some (.int x)] [.int x, v0, v1, v2, v3, v4, v5] m Q := A_iload hB_X11_want dX11_want_80 rfl
theorem dX11_want_82 : decode cX11_want 82 = .ok (.invokevirtual 248, 3) := by decide +kernel
theorem tX11_want_82 {d : Nat} {l0 l1 l2 l3 l4 l5 l6 : Option Value} {y0 y1 y2 y3 y4 y5 : Value} {a : Nat} {m : jmM} {Q : Option Value → jmM → Prop} : AW d 159 82 [l0, l1, l2, l3, l4, l5, l6] [y0, y1, y2, y3, y4, y5, .ref a] m Q ↔ (mS m a).1 = 10 ∧ CC d 136 [.ref a, y5, y4, y3, y2, y1, y0] m (jK d 159 85 [l0, l1, l2, l3, l4, l5, l6] [] Q) := A_callV hB_X11_want dX11_want_82 hO_X11_want fS_11_248 ⟨Nat.le_of_ble_eq_true rfl, Nat.le_of_ble_eq_true rfl⟩ rfl rfl rfl
theorem dX11_want_85 : decode cX11_want 85 = .ok (.aload_n 0, 1) := by decide +kernel
theorem tX11_want_85 {d : Nat} {l1 l2 l3 l4 l5 l6 : Option Value} {x : Nat} {m : jmM} {Q : Option Value → jmM → Prop} : AW d 159 85 [some (.ref x), l1, l2, l3, l4, l5, l6] [] m Q ↔ AW d 159 86 [some (.ref x), l1, l2, l3, l4, l5, l6] [.ref x] m Q := A_aload_n hB_X11_want dX11_want_85 rfl
theorem dX11_want_86 : decode cX11_want 86 = .ok (.dup, 1) := by decide +kernel
theorem tX11_want_86 {d : Nat} {l0 l1 l2 l3 l4 l5 l6 : Option Value} {x : Nat} {m : jmM} {Q : Option Value → jmM → Prop} : AW d 159 86 [l0, l1, l2, l3, l4, l5, l6] [.ref x] m Q ↔ AW d 159 87 [l0, l1, l2, l3, l4, l5, l6] [.ref x, .ref x] m Q := A_dup_a hB_X11_want dX11_want_86
theorem dX11_want_87 : decode cX11_want 87 = .ok (.getfield 75, 3) := by decide +kernel
theorem tX11_want_87 {d : Nat} {l0 l1 l2 l3 l4 l5 l6 : Option Value} {v1 : Value} {a : Nat} {m : jmM} {Q : Option Value → jmM → Prop} : AW d 159 87 [l0, l1, l2, l3, l4, l5, l6] [.ref a, v1] m Q ↔ (mS m a).1 = 11 ∧ AW d 159 90 [l0, l1, l2, l3, l4, l5, l6] [.int (mI m a 12), v1] m Q := A_getfield (f := fun m a => .int (mI m a 12)) hB_X11_want dX11_want_87 hO_X11_want fF_11_75 rfl
theorem dX11_want_90 : decode cX11_want 90 = .ok (.iconst 1, 1) := by decide +kernel
theorem tX11_want_90 {d : Nat} {l0 l1 l2 l3 l4 l5 l6 : Option Value} {v0 v1 : Value} {m : jmM} {Q : Option Value → jmM → Prop} : AW d 159 90 [l0, l1, l2, l3, l4, l5, l6] [v0, v1] m Q ↔ AW d 159 91 [l0, l1, l2, l3, l4, l5, l6] [.int 1, v0, v1] m Q := A_iconst hB_X11_want dX11_want_90 (by decide)
theorem dX11_want_91 : decode cX11_want 91 = .ok (.iadd, 1) := by decide +kernel
theorem tX11_want_91 {d : Nat} {l0 l1 l2 l3 l4 l5 l6 : Option Value} {v2 : Value} {x y : Int32} {m : jmM} {Q : Option Value → jmM → Prop} : AW d 159 91 [l0, l1, l2, l3, l4, l5, l6] [.int y, .int x, v2] m Q ↔ AW d 159 92 [l0, l1, l2, l3, l4, l5, l6] [.int (x + y), v2] m Q := A_iadd hB_X11_want dX11_want_91
theorem dX11_want_92 : decode cX11_want 92 = .ok (.putfield 75, 3) := by decide +kernel
theorem tX11_want_92 {d : Nat} {l0 l1 l2 l3 l4 l5 l6 : Option Value} {x : Int32} {a : Nat} {m : jmM} {Q : Option Value → jmM → Prop} : AW d 159 92 [l0, l1, l2, l3, l4, l5, l6] [.int x, .ref a] m Q ↔ (mS m a).1 = 11 ∧ AW d 159 95 [l0, l1, l2, l3, l4, l5, l6] [] (cI m a (jup (mI m a) 12 x)) Q := A_putI hB_X11_want dX11_want_92 hO_X11_want fF_11_75 rfl (fun h => Bool.noConfusion h)
theorem dX11_want_95 : decode cX11_want 95 = .ok (.aload_n 0, 1) := by decide +kernel
theorem tX11_want_95 {d : Nat} {l1 l2 l3 l4 l5 l6 : Option Value} {x : Nat} {m : jmM} {Q : Option Value → jmM → Prop} : AW d 159 95 [some (.ref x), l1, l2, l3, l4, l5, l6] [] m Q ↔ AW d 159 96 [some (.ref x), l1, l2, l3, l4, l5, l6] [.ref x] m Q := A_aload_n hB_X11_want dX11_want_95 rfl
theorem dX11_want_96 : decode cX11_want 96 = .ok (.getfield 75, 3) := by decide +kernel
theorem tX11_want_96 {d : Nat} {l0 l1 l2 l3 l4 l5 l6 : Option Value} {a : Nat} {m : jmM} {Q : Option Value → jmM → Prop} : AW d 159 96 [l0, l1, l2, l3, l4, l5, l6] [.ref a] m Q ↔ (mS m a).1 = 11 ∧ AW d 159 99 [l0, l1, l2, l3, l4, l5, l6] [.int (mI m a 12)] m Q := A_getfield (f := fun m a => .int (mI m a 12)) hB_X11_want dX11_want_96 hO_X11_want fF_11_75 rfl
theorem dX11_want_99 : decode cX11_want 99 = .ok (.iconst 1, 1) := by decide +kernel
theorem tX11_want_99 {d : Nat} {l0 l1 l2 l3 l4 l5 l6 : Option Value} {v0 : Value} {m : jmM} {Q : Option Value → jmM → Prop} : AW d 159 99 [l0, l1, l2, l3, l4, l5, l6] [v0] m Q ↔ AW d 159 100 [l0, l1, l2, l3, l4, l5, l6] [.int 1, v0] m Q := A_iconst hB_X11_want dX11_want_99 (by decide)
theorem dX11_want_100 : decode cX11_want 100 = .ok (.isub, 1) := by decide +kernel
theorem tX11_want_100 {d : Nat} {l0 l1 l2 l3 l4 l5 l6 : Option Value} {x y : Int32} {m : jmM} {Q : Option Value → jmM → Prop} : AW d 159 100 [l0, l1, l2, l3, l4, l5, l6] [.int y, .int x] m Q ↔ AW d 159 101 [l0, l1, l2, l3, l4, l5, l6] [.int (x - y)] m Q := A_isub hB_X11_want dX11_want_100
theorem dX11_want_101 : decode cX11_want 101 = .ok (.ireturn, 1) := by decide +kernel
theorem tX11_want_101 {d : Nat} {l0 l1 l2 l3 l4 l5 l6 : Option Value} {x : Int32} {m : jmM} {Q : Option Value → jmM → Prop} : AW d 159 101 [l0, l1, l2, l3, l4, l5, l6] [.int x] m Q ↔ Q (some (.int x)) m := A_ireturn hB_X11_want dX11_want_101 hR_X11_want
theorem hB_X11_cut : jB 160 = cX11_cut := rfl
theorem hO_X11_cut : jO 160 = 11 := rfl
theorem hR_X11_cut : jRt 160 = (some .int) := rfl
theorem nX11_cut (d : Nat) (x0 : Nat) (m : jmM) (Q : Option Value → jmM → Prop) : CC (d + 1) 160 [.ref x0] m Q ↔ AW d 160 0 [some (.ref x0)] [] m Q := CC_body (Nat.le_of_ble_eq_true rfl)
theorem dX11_cut_0 : decode cX11_cut 0 = .ok (.aload_n 0, 1) := by decide +kernel
theorem tX11_cut_0 {d : Nat} {x : Nat} {m : jmM} {Q : Option Value → jmM → Prop} : AW d 160 0 [some (.ref x)] [] m Q ↔ AW d 160 1 [some (.ref x)] [.ref x] m Q := A_aload_n hB_X11_cut dX11_cut_0 rfl
theorem dX11_cut_1 : decode cX11_cut 1 = .ok (.aload_n 0, 1) := by decide +kernel
theorem tX11_cut_1 {d : Nat} {v0 : Value} {x : Nat} {m : jmM} {Q : Option Value → jmM → Prop} : AW d 160 1 [some (.ref x)] [v0] m Q ↔ AW d 160 2 [some (.ref x)] [.ref x, v0] m Q := A_aload_n hB_X11_cut dX11_cut_1 rfl
theorem dX11_cut_2 : decode cX11_cut 2 = .ok (.getfield 56, 3) := by decide +kernel
theorem tX11_cut_2 {d : Nat} {l0 : Option Value} {v1 : Value} {a : Nat} {m : jmM} {Q : Option Value → jmM → Prop} : AW d 160 2 [l0] [.ref a, v1] m Q ↔ (mS m a).1 = 11 ∧ AW d 160 5 [l0] [va_rf (mR m a 8), v1] m Q := A_getfield (f := fun m a => va_rf (mR m a 8)) hB_X11_cut dX11_cut_2 hO_X11_cut fF_11_56 rfl
theorem dX11_cut_5 : decode cX11_cut 5 = .ok (.invokevirtual 249, 3) := by decide +kernel
theorem tX11_cut_5 {d : Nat} {l0 : Option Value} {y0 : Value} {a : Nat} {m : jmM} {Q : Option Value → jmM → Prop} : AW d 160 5 [l0] [y0, .ref a] m Q ↔ (mS m a).1 = 11 ∧ CC d 178 [.ref a, y0] m (jK d 160 8 [l0] [] Q) := A_callV hB_X11_cut dX11_cut_5 hO_X11_cut fS_11_249 ⟨Nat.le_of_ble_eq_true rfl, Nat.le_of_ble_eq_true rfl⟩ rfl rfl rfl
theorem dX11_cut_8 : decode cX11_cut 8 = .ok (.ireturn, 1) := by decide +kernel
theorem tX11_cut_8 {d : Nat} {l0 : Option Value} {x : Int32} {m : jmM} {Q : Option Value → jmM → Prop} : AW d 160 8 [l0] [.int x] m Q ↔ Q (some (.int x)) m := A_ireturn hB_X11_cut dX11_cut_8 hR_X11_cut
theorem hB_X11_whose : jB 161 = cX11_whose := rfl
theorem hO_X11_whose : jO 161 = 11 := rfl
theorem hR_X11_whose : jRt 161 = (some .int) := rfl
theorem nX11_whose (d : Nat) (x0 : Nat) (x1 : Int32) (m : jmM) (Q : Option Value → jmM → Prop) : CC (d + 1) 161 [.ref x0, .int x1] m Q ↔ AW d 161 0 [some (.ref x0), some (.int x1)] [] m Q := CC_body (Nat.le_of_ble_eq_true rfl)
theorem dX11_whose_0 : decode cX11_whose 0 = .ok (.aload_n 0, 1) := by decide +kernel
theorem tX11_whose_0 {d : Nat} {l1 : Option Value} {x : Nat} {m : jmM} {Q : Option Value → jmM → Prop} : AW d 161 0 [some (.ref x), l1] [] m Q ↔ AW d 161 1 [some (.ref x), l1] [.ref x] m Q := A_aload_n hB_X11_whose dX11_whose_0 rfl
theorem dX11_whose_1 : decode cX11_whose 1 = .ok (.getfield 56, 3) := by decide +kernel
theorem tX11_whose_1 {d : Nat} {l0 l1 : Option Value} {a : Nat} {m : jmM} {Q : Option Value → jmM → Prop} : AW d 161 1 [l0, l1] [.ref a] m Q ↔ (mS m a).1 = 11 ∧ AW d 161 4 [l0, l1] [va_rf (mR m a 8)] m Q := A_getfield (f := fun m a => va_rf (mR m a 8)) hB_X11_whose dX11_whose_1 hO_X11_whose fF_11_56 rfl
theorem dX11_whose_4 : decode cX11_whose 4 = .ok (.iload_n 1, 1) := by decide +kernel
theorem tX11_whose_4 {d : Nat} {l0 : Option Value} {v0 : Value} {x : Int32} {m : jmM} {Q : Option Value → jmM → Prop} : AW d 161 4 [l0, some (.int x)] [v0] m Q ↔ AW d 161 5 [l0, some (.int x)] [.int x, v0] m Q := A_iload_n hB_X11_whose dX11_whose_4 rfl
theorem dX11_whose_5 : decode cX11_whose 5 = .ok (.invokevirtual 193, 3) := by decide +kernel
theorem tX11_whose_5 {d : Nat} {l0 l1 : Option Value} {y0 : Value} {a : Nat} {m : jmM} {Q : Option Value → jmM → Prop} : AW d 161 5 [l0, l1] [y0, .ref a] m Q ↔ (mS m a).1 = 5 ∧ CC d 72 [.ref a, y0] m (jK d 161 8 [l0, l1] [] Q) := A_callV hB_X11_whose dX11_whose_5 hO_X11_whose fS_11_193 ⟨Nat.le_of_ble_eq_true rfl, Nat.le_of_ble_eq_true rfl⟩ rfl rfl rfl
theorem dX11_whose_8 : decode cX11_whose 8 = .ok (.ifCond .ne 6, 3) := by decide +kernel
theorem tX11_whose_8 {d : Nat} {l0 l1 : Option Value} {x : Int32} {m : jmM} {Q : Option Value → jmM → Prop} : AW d 161 8 [l0, l1] [.int x] m Q ↔ if x = 0 then AW d 161 11 [l0, l1] [] m Q else AW d 161 14 [l0, l1] [] m Q := A_if_ne hB_X11_whose dX11_whose_8 (by decide)
theorem dX11_whose_11 : decode cX11_whose 11 = .ok (.bipush (-2), 2) := by decide +kernel
theorem tX11_whose_11 {d : Nat} {l0 l1 : Option Value} {m : jmM} {Q : Option Value → jmM → Prop} : AW d 161 11 [l0, l1] [] m Q ↔ AW d 161 13 [l0, l1] [.int (-2)] m Q := A_bipush hB_X11_whose dX11_whose_11 rfl
theorem dX11_whose_13 : decode cX11_whose 13 = .ok (.ireturn, 1) := by decide +kernel
theorem tX11_whose_13 {d : Nat} {l0 l1 : Option Value} {x : Int32} {m : jmM} {Q : Option Value → jmM → Prop} : AW d 161 13 [l0, l1] [.int x] m Q ↔ Q (some (.int x)) m := A_ireturn hB_X11_whose dX11_whose_13 hR_X11_whose
theorem dX11_whose_14 : decode cX11_whose 14 = .ok (.aload_n 0, 1) := by decide +kernel
theorem tX11_whose_14 {d : Nat} {l1 : Option Value} {x : Nat} {m : jmM} {Q : Option Value → jmM → Prop} : AW d 161 14 [some (.ref x), l1] [] m Q ↔ AW d 161 15 [some (.ref x), l1] [.ref x] m Q := A_aload_n hB_X11_whose dX11_whose_14 rfl
theorem dX11_whose_15 : decode cX11_whose 15 = .ok (.getfield 81, 3) := by decide +kernel
theorem tX11_whose_15 {d : Nat} {l0 l1 : Option Value} {a : Nat} {m : jmM} {Q : Option Value → jmM → Prop} : AW d 161 15 [l0, l1] [.ref a] m Q ↔ (mS m a).1 = 11 ∧ AW d 161 18 [l0, l1] [va_rf (mR m a 13)] m Q := A_getfield (f := fun m a => va_rf (mR m a 13)) hB_X11_whose dX11_whose_15 hO_X11_whose fF_11_81 rfl
theorem dX11_whose_18 : decode cX11_whose 18 = .ok (.aload_n 0, 1) := by decide +kernel
theorem tX11_whose_18 {d : Nat} {l1 : Option Value} {v0 : Value} {x : Nat} {m : jmM} {Q : Option Value → jmM → Prop} : AW d 161 18 [some (.ref x), l1] [v0] m Q ↔ AW d 161 19 [some (.ref x), l1] [.ref x, v0] m Q := A_aload_n hB_X11_whose dX11_whose_18 rfl
theorem dX11_whose_19 : decode cX11_whose 19 = .ok (.getfield 56, 3) := by decide +kernel
theorem tX11_whose_19 {d : Nat} {l0 l1 : Option Value} {v1 : Value} {a : Nat} {m : jmM} {Q : Option Value → jmM → Prop} : AW d 161 19 [l0, l1] [.ref a, v1] m Q ↔ (mS m a).1 = 11 ∧ AW d 161 22 [l0, l1] [va_rf (mR m a 8), v1] m Q := A_getfield (f := fun m a => va_rf (mR m a 8)) hB_X11_whose dX11_whose_19 hO_X11_whose fF_11_56 rfl
theorem dX11_whose_22 : decode cX11_whose 22 = .ok (.aload_n 0, 1) := by decide +kernel
theorem tX11_whose_22 {d : Nat} {l1 : Option Value} {v0 v1 : Value} {x : Nat} {m : jmM} {Q : Option Value → jmM → Prop} : AW d 161 22 [some (.ref x), l1] [v0, v1] m Q ↔ AW d 161 23 [some (.ref x), l1] [.ref x, v0, v1] m Q := A_aload_n hB_X11_whose dX11_whose_22 rfl
theorem dX11_whose_23 : decode cX11_whose 23 = .ok (.getfield 49, 3) := by decide +kernel
theorem tX11_whose_23 {d : Nat} {l0 l1 : Option Value} {v1 v2 : Value} {a : Nat} {m : jmM} {Q : Option Value → jmM → Prop} : AW d 161 23 [l0, l1] [.ref a, v1, v2] m Q ↔ (mS m a).1 = 11 ∧ AW d 161 26 [l0, l1] [.int (mI m a 7), v1, v2] m Q := A_getfield (f := fun m a => .int (mI m a 7)) hB_X11_whose dX11_whose_23 hO_X11_whose fF_11_49 rfl
theorem dX11_whose_26 : decode cX11_whose 26 = .ok (.aload_n 0, 1) := by decide +kernel
theorem tX11_whose_26 {d : Nat} {l1 : Option Value} {v0 v1 v2 : Value} {x : Nat} {m : jmM} {Q : Option Value → jmM → Prop} : AW d 161 26 [some (.ref x), l1] [v0, v1, v2] m Q ↔ AW d 161 27 [some (.ref x), l1] [.ref x, v0, v1, v2] m Q := A_aload_n hB_X11_whose dX11_whose_26 rfl
theorem dX11_whose_27 : decode cX11_whose 27 = .ok (.getfield 71, 3) := by decide +kernel
theorem tX11_whose_27 {d : Nat} {l0 l1 : Option Value} {v1 v2 v3 : Value} {a : Nat} {m : jmM} {Q : Option Value → jmM → Prop} : AW d 161 27 [l0, l1] [.ref a, v1, v2, v3] m Q ↔ (mS m a).1 = 11 ∧ AW d 161 30 [l0, l1] [va_rf (mR m a 11), v1, v2, v3] m Q := A_getfield (f := fun m a => va_rf (mR m a 11)) hB_X11_whose dX11_whose_27 hO_X11_whose fF_11_71 rfl
theorem dX11_whose_30 : decode cX11_whose 30 = .ok (.aload_n 0, 1) := by decide +kernel
theorem tX11_whose_30 {d : Nat} {l1 : Option Value} {v0 v1 v2 v3 : Value} {x : Nat} {m : jmM} {Q : Option Value → jmM → Prop} : AW d 161 30 [some (.ref x), l1] [v0, v1, v2, v3] m Q ↔ AW d 161 31 [some (.ref x), l1] [.ref x, v0, v1, v2, v3] m Q := A_aload_n hB_X11_whose dX11_whose_30 rfl
theorem dX11_whose_31 : decode cX11_whose 31 = .ok (.getfield 75, 3) := by decide +kernel
theorem tX11_whose_31 {d : Nat} {l0 l1 : Option Value} {v1 v2 v3 v4 : Value} {a : Nat} {m : jmM} {Q : Option Value → jmM → Prop} : AW d 161 31 [l0, l1] [.ref a, v1, v2, v3, v4] m Q ↔ (mS m a).1 = 11 ∧ AW d 161 34 [l0, l1] [.int (mI m a 12), v1, v2, v3, v4] m Q := A_getfield (f := fun m a => .int (mI m a 12)) hB_X11_whose dX11_whose_31 hO_X11_whose fF_11_75 rfl
theorem dX11_whose_34 : decode cX11_whose 34 = .ok (.invokevirtual 253, 3) := by decide +kernel
theorem tX11_whose_34 {d : Nat} {l0 l1 : Option Value} {y0 y1 y2 y3 : Value} {a : Nat} {m : jmM} {Q : Option Value → jmM → Prop} : AW d 161 34 [l0, l1] [y0, y1, y2, y3, .ref a] m Q ↔ (mS m a).1 = 0 ∧ CC d 1 [.ref a, y3, y2, y1, y0] m (jK d 161 37 [l0, l1] [] Q) := A_callV hB_X11_whose dX11_whose_34 hO_X11_whose fS_11_253 ⟨Nat.le_of_ble_eq_true rfl, Nat.le_of_ble_eq_true rfl⟩ rfl rfl rfl
theorem dX11_whose_37 : decode cX11_whose 37 = .ok (.aload_n 0, 1) := by decide +kernel
theorem tX11_whose_37 {d : Nat} {l1 : Option Value} {x : Nat} {m : jmM} {Q : Option Value → jmM → Prop} : AW d 161 37 [some (.ref x), l1] [] m Q ↔ AW d 161 38 [some (.ref x), l1] [.ref x] m Q := A_aload_n hB_X11_whose dX11_whose_37 rfl
theorem dX11_whose_38 : decode cX11_whose 38 = .ok (.getfield 81, 3) := by decide +kernel
theorem tX11_whose_38 {d : Nat} {l0 l1 : Option Value} {a : Nat} {m : jmM} {Q : Option Value → jmM → Prop} : AW d 161 38 [l0, l1] [.ref a] m Q ↔ (mS m a).1 = 11 ∧ AW d 161 41 [l0, l1] [va_rf (mR m a 13)] m Q := A_getfield (f := fun m a => va_rf (mR m a 13)) hB_X11_whose dX11_whose_38 hO_X11_whose fF_11_81 rfl
theorem dX11_whose_41 : decode cX11_whose 41 = .ok (.iload_n 1, 1) := by decide +kernel
theorem tX11_whose_41 {d : Nat} {l0 : Option Value} {v0 : Value} {x : Int32} {m : jmM} {Q : Option Value → jmM → Prop} : AW d 161 41 [l0, some (.int x)] [v0] m Q ↔ AW d 161 42 [l0, some (.int x)] [.int x, v0] m Q := A_iload_n hB_X11_whose dX11_whose_41 rfl
theorem dX11_whose_42 : decode cX11_whose 42 = .ok (.invokevirtual 257, 3) := by decide +kernel
theorem tX11_whose_42 {d : Nat} {l0 l1 : Option Value} {y0 : Value} {a : Nat} {m : jmM} {Q : Option Value → jmM → Prop} : AW d 161 42 [l0, l1] [y0, .ref a] m Q ↔ (mS m a).1 = 0 ∧ CC d 7 [.ref a, y0] m (jK d 161 45 [l0, l1] [] Q) := A_callV hB_X11_whose dX11_whose_42 hO_X11_whose fS_11_257 ⟨Nat.le_of_ble_eq_true rfl, Nat.le_of_ble_eq_true rfl⟩ rfl rfl rfl
theorem dX11_whose_45 : decode cX11_whose 45 = .ok (.ireturn, 1) := by decide +kernel
theorem tX11_whose_45 {d : Nat} {l0 l1 : Option Value} {x : Int32} {m : jmM} {Q : Option Value → jmM → Prop} : AW d 161 45 [l0, l1] [.int x] m Q ↔ Q (some (.int x)) m := A_ireturn hB_X11_whose dX11_whose_45 hR_X11_whose
theorem hB_X11_enough : jB 162 = cX11_enough := rfl
theorem hO_X11_enough : jO 162 = 11 := rfl
theorem hR_X11_enough : jRt 162 = (some .int) := rfl
theorem nX11_enough (d : Nat) (x0 : Nat) (x1 : Int32) (x2 : Int32) (x3 : Int32) (x4 : Int32) (x5 : Int32) (m : jmM) (Q : Option Value → jmM → Prop) : CC (d + 1) 162 [.ref x0, .int x1, .int x2, .int x3, .int x4, .int x5] m Q ↔ AW d 162 0 [some (.ref x0), some (.int x1), some (.int x2), some (.int x3), some (.int x4), some (.int x5), none, none, none, none] [] m Q := CC_body (Nat.le_of_ble_eq_true rfl)
theorem dX11_enough_0 : decode cX11_enough 0 = .ok (.aload_n 0, 1) := by decide +kernel
theorem tX11_enough_0 {d : Nat} {l1 l2 l3 l4 l5 l6 l7 l8 l9 : Option Value} {x : Nat} {m : jmM} {Q : Option Value → jmM → Prop} : AW d 162 0 [some (.ref x), l1, l2, l3, l4, l5, l6, l7, l8, l9] [] m Q ↔ AW d 162 1 [some (.ref x), l1, l2, l3, l4, l5, l6, l7, l8, l9] [.ref x] m Q := A_aload_n hB_X11_enough dX11_enough_0 rfl
theorem dX11_enough_1 : decode cX11_enough 1 = .ok (.getfield 56, 3) := by decide +kernel
theorem tX11_enough_1 {d : Nat} {l0 l1 l2 l3 l4 l5 l6 l7 l8 l9 : Option Value} {a : Nat} {m : jmM} {Q : Option Value → jmM → Prop} : AW d 162 1 [l0, l1, l2, l3, l4, l5, l6, l7, l8, l9] [.ref a] m Q ↔ (mS m a).1 = 11 ∧ AW d 162 4 [l0, l1, l2, l3, l4, l5, l6, l7, l8, l9] [va_rf (mR m a 8)] m Q := A_getfield (f := fun m a => va_rf (mR m a 8)) hB_X11_enough dX11_enough_1 hO_X11_enough fF_11_56 rfl
theorem dX11_enough_4 : decode cX11_enough 4 = .ok (.invokevirtual 159, 3) := by decide +kernel
theorem tX11_enough_4 {d : Nat} {l0 l1 l2 l3 l4 l5 l6 l7 l8 l9 : Option Value} {a : Nat} {m : jmM} {Q : Option Value → jmM → Prop} : AW d 162 4 [l0, l1, l2, l3, l4, l5, l6, l7, l8, l9] [.ref a] m Q ↔ (mS m a).1 = 5 ∧ CC d 73 [.ref a] m (jK d 162 7 [l0, l1, l2, l3, l4, l5, l6, l7, l8, l9] [] Q) := A_callV hB_X11_enough dX11_enough_4 hO_X11_enough fS_11_159 ⟨Nat.le_of_ble_eq_true rfl, Nat.le_of_ble_eq_true rfl⟩ rfl rfl rfl
theorem dX11_enough_7 : decode cX11_enough 7 = .ok (.ifCond .eq 30, 3) := by decide +kernel
theorem tX11_enough_7 {d : Nat} {l0 l1 l2 l3 l4 l5 l6 l7 l8 l9 : Option Value} {x : Int32} {m : jmM} {Q : Option Value → jmM → Prop} : AW d 162 7 [l0, l1, l2, l3, l4, l5, l6, l7, l8, l9] [.int x] m Q ↔ if x = 0 then AW d 162 37 [l0, l1, l2, l3, l4, l5, l6, l7, l8, l9] [] m Q else AW d 162 10 [l0, l1, l2, l3, l4, l5, l6, l7, l8, l9] [] m Q := A_if_eq hB_X11_enough dX11_enough_7 (by decide)
theorem dX11_enough_10 : decode cX11_enough 10 = .ok (.iload_n 1, 1) := by decide +kernel
theorem tX11_enough_10 {d : Nat} {l0 l2 l3 l4 l5 l6 l7 l8 l9 : Option Value} {x : Int32} {m : jmM} {Q : Option Value → jmM → Prop} : AW d 162 10 [l0, some (.int x), l2, l3, l4, l5, l6, l7, l8, l9] [] m Q ↔ AW d 162 11 [l0, some (.int x), l2, l3, l4, l5, l6, l7, l8, l9] [.int x] m Q := A_iload_n hB_X11_enough dX11_enough_10 rfl
theorem dX11_enough_11 : decode cX11_enough 11 = .ok (.invokestatic 123, 3) := by decide +kernel
theorem tX11_enough_11 {d : Nat} {l0 l1 l2 l3 l4 l5 l6 l7 l8 l9 : Option Value} {y0 : Value} {m : jmM} {Q : Option Value → jmM → Prop} : AW d 162 11 [l0, l1, l2, l3, l4, l5, l6, l7, l8, l9] [y0] m Q ↔ CC d 182 [y0] m (jK d 162 14 [l0, l1, l2, l3, l4, l5, l6, l7, l8, l9] [] Q) := A_callS0 hB_X11_enough dX11_enough_11 hO_X11_enough fS_11_123 ⟨Nat.le_of_ble_eq_true rfl, Nat.le_of_ble_eq_true rfl⟩ rfl rfl
theorem dX11_enough_14 : decode cX11_enough 14 = .ok (.ifCond .eq 23, 3) := by decide +kernel
theorem tX11_enough_14 {d : Nat} {l0 l1 l2 l3 l4 l5 l6 l7 l8 l9 : Option Value} {x : Int32} {m : jmM} {Q : Option Value → jmM → Prop} : AW d 162 14 [l0, l1, l2, l3, l4, l5, l6, l7, l8, l9] [.int x] m Q ↔ if x = 0 then AW d 162 37 [l0, l1, l2, l3, l4, l5, l6, l7, l8, l9] [] m Q else AW d 162 17 [l0, l1, l2, l3, l4, l5, l6, l7, l8, l9] [] m Q := A_if_eq hB_X11_enough dX11_enough_14 (by decide)
theorem dX11_enough_17 : decode cX11_enough 17 = .ok (.iload_n 2, 1) := by decide +kernel
theorem tX11_enough_17 {d : Nat} {l0 l1 l3 l4 l5 l6 l7 l8 l9 : Option Value} {x : Int32} {m : jmM} {Q : Option Value → jmM → Prop} : AW d 162 17 [l0, l1, some (.int x), l3, l4, l5, l6, l7, l8, l9] [] m Q ↔ AW d 162 18 [l0, l1, some (.int x), l3, l4, l5, l6, l7, l8, l9] [.int x] m Q := A_iload_n hB_X11_enough dX11_enough_17 rfl
theorem dX11_enough_18 : decode cX11_enough 18 = .ok (.iconst 1, 1) := by decide +kernel
theorem tX11_enough_18 {d : Nat} {l0 l1 l2 l3 l4 l5 l6 l7 l8 l9 : Option Value} {v0 : Value} {m : jmM} {Q : Option Value → jmM → Prop} : AW d 162 18 [l0, l1, l2, l3, l4, l5, l6, l7, l8, l9] [v0] m Q ↔ AW d 162 19 [l0, l1, l2, l3, l4, l5, l6, l7, l8, l9] [.int 1, v0] m Q := A_iconst hB_X11_enough dX11_enough_18 (by decide)
theorem dX11_enough_19 : decode cX11_enough 19 = .ok (.ldc_w 260, 3) := by decide +kernel
theorem tX11_enough_19 {d : Nat} {l0 l1 l2 l3 l4 l5 l6 l7 l8 l9 : Option Value} {v0 v1 : Value} {m : jmM} {Q : Option Value → jmM → Prop} : AW d 162 19 [l0, l1, l2, l3, l4, l5, l6, l7, l8, l9] [v0, v1] m Q ↔ AW d 162 22 [l0, l1, l2, l3, l4, l5, l6, l7, l8, l9] [.int 9999999, v0, v1] m Q := A_ldc_w hB_X11_enough dX11_enough_19 hO_X11_enough fL_11_260
theorem dX11_enough_22 : decode cX11_enough 22 = .ok (.invokestatic 128, 3) := by decide +kernel
theorem tX11_enough_22 {d : Nat} {l0 l1 l2 l3 l4 l5 l6 l7 l8 l9 : Option Value} {y0 y1 y2 : Value} {m : jmM} {Q : Option Value → jmM → Prop} : AW d 162 22 [l0, l1, l2, l3, l4, l5, l6, l7, l8, l9] [y0, y1, y2] m Q ↔ CC d 183 [y2, y1, y0] m (jK d 162 25 [l0, l1, l2, l3, l4, l5, l6, l7, l8, l9] [] Q) := A_callS0 hB_X11_enough dX11_enough_22 hO_X11_enough fS_11_128 ⟨Nat.le_of_ble_eq_true rfl, Nat.le_of_ble_eq_true rfl⟩ rfl rfl
theorem dX11_enough_25 : decode cX11_enough 25 = .ok (.ifCond .eq 12, 3) := by decide +kernel
theorem tX11_enough_25 {d : Nat} {l0 l1 l2 l3 l4 l5 l6 l7 l8 l9 : Option Value} {x : Int32} {m : jmM} {Q : Option Value → jmM → Prop} : AW d 162 25 [l0, l1, l2, l3, l4, l5, l6, l7, l8, l9] [.int x] m Q ↔ if x = 0 then AW d 162 37 [l0, l1, l2, l3, l4, l5, l6, l7, l8, l9] [] m Q else AW d 162 28 [l0, l1, l2, l3, l4, l5, l6, l7, l8, l9] [] m Q := A_if_eq hB_X11_enough dX11_enough_25 (by decide)
theorem dX11_enough_28 : decode cX11_enough 28 = .ok (.iload_n 3, 1) := by decide +kernel
theorem tX11_enough_28 {d : Nat} {l0 l1 l2 l4 l5 l6 l7 l8 l9 : Option Value} {x : Int32} {m : jmM} {Q : Option Value → jmM → Prop} : AW d 162 28 [l0, l1, l2, some (.int x), l4, l5, l6, l7, l8, l9] [] m Q ↔ AW d 162 29 [l0, l1, l2, some (.int x), l4, l5, l6, l7, l8, l9] [.int x] m Q := A_iload_n hB_X11_enough dX11_enough_28 rfl
theorem dX11_enough_29 : decode cX11_enough 29 = .ok (.iload 4, 2) := by decide +kernel
theorem tX11_enough_29 {d : Nat} {l0 l1 l2 l3 l5 l6 l7 l8 l9 : Option Value} {v0 : Value} {x : Int32} {m : jmM} {Q : Option Value → jmM → Prop} : AW d 162 29 [l0, l1, l2, l3, some (.int x), l5, l6, l7, l8, l9] [v0] m Q ↔ AW d 162 31 [l0, l1, l2, l3, some (.int x), l5, l6, l7, l8, l9] [.int x, v0] m Q := A_iload hB_X11_enough dX11_enough_29 rfl
theorem dX11_enough_31 : decode cX11_enough 31 = .ok (.invokestatic 244, 3) := by decide +kernel
theorem tX11_enough_31 {d : Nat} {l0 l1 l2 l3 l4 l5 l6 l7 l8 l9 : Option Value} {y0 y1 : Value} {m : jmM} {Q : Option Value → jmM → Prop} : AW d 162 31 [l0, l1, l2, l3, l4, l5, l6, l7, l8, l9] [y0, y1] m Q ↔ CC d 184 [y1, y0] m (jK d 162 34 [l0, l1, l2, l3, l4, l5, l6, l7, l8, l9] [] Q) := A_callS0 hB_X11_enough dX11_enough_31 hO_X11_enough fS_11_244 ⟨Nat.le_of_ble_eq_true rfl, Nat.le_of_ble_eq_true rfl⟩ rfl rfl
theorem dX11_enough_34 : decode cX11_enough 34 = .ok (.ifCond .ne 5, 3) := by decide +kernel
theorem tX11_enough_34 {d : Nat} {l0 l1 l2 l3 l4 l5 l6 l7 l8 l9 : Option Value} {x : Int32} {m : jmM} {Q : Option Value → jmM → Prop} : AW d 162 34 [l0, l1, l2, l3, l4, l5, l6, l7, l8, l9] [.int x] m Q ↔ if x = 0 then AW d 162 37 [l0, l1, l2, l3, l4, l5, l6, l7, l8, l9] [] m Q else AW d 162 39 [l0, l1, l2, l3, l4, l5, l6, l7, l8, l9] [] m Q := A_if_ne hB_X11_enough dX11_enough_34 (by decide)
theorem dX11_enough_37 : decode cX11_enough 37 = .ok (.iconst (-1), 1) := by decide +kernel
theorem tX11_enough_37 {d : Nat} {l0 l1 l2 l3 l4 l5 l6 l7 l8 l9 : Option Value} {m : jmM} {Q : Option Value → jmM → Prop} : AW d 162 37 [l0, l1, l2, l3, l4, l5, l6, l7, l8, l9] [] m Q ↔ AW d 162 38 [l0, l1, l2, l3, l4, l5, l6, l7, l8, l9] [.int (-1)] m Q := A_iconst hB_X11_enough dX11_enough_37 (by decide)
theorem dX11_enough_38 : decode cX11_enough 38 = .ok (.ireturn, 1) := by decide +kernel
theorem tX11_enough_38 {d : Nat} {l0 l1 l2 l3 l4 l5 l6 l7 l8 l9 : Option Value} {x : Int32} {m : jmM} {Q : Option Value → jmM → Prop} : AW d 162 38 [l0, l1, l2, l3, l4, l5, l6, l7, l8, l9] [.int x] m Q ↔ Q (some (.int x)) m := A_ireturn hB_X11_enough dX11_enough_38 hR_X11_enough
theorem dX11_enough_39 : decode cX11_enough 39 = .ok (.iload 5, 2) := by decide +kernel
theorem tX11_enough_39 {d : Nat} {l0 l1 l2 l3 l4 l6 l7 l8 l9 : Option Value} {x : Int32} {m : jmM} {Q : Option Value → jmM → Prop} : AW d 162 39 [l0, l1, l2, l3, l4, some (.int x), l6, l7, l8, l9] [] m Q ↔ AW d 162 41 [l0, l1, l2, l3, l4, some (.int x), l6, l7, l8, l9] [.int x] m Q := A_iload hB_X11_enough dX11_enough_39 rfl
theorem dX11_enough_41 : decode cX11_enough 41 = .ok (.ifCond .eq 11, 3) := by decide +kernel
theorem tX11_enough_41 {d : Nat} {l0 l1 l2 l3 l4 l5 l6 l7 l8 l9 : Option Value} {x : Int32} {m : jmM} {Q : Option Value → jmM → Prop} : AW d 162 41 [l0, l1, l2, l3, l4, l5, l6, l7, l8, l9] [.int x] m Q ↔ if x = 0 then AW d 162 52 [l0, l1, l2, l3, l4, l5, l6, l7, l8, l9] [] m Q else AW d 162 44 [l0, l1, l2, l3, l4, l5, l6, l7, l8, l9] [] m Q := A_if_eq hB_X11_enough dX11_enough_41 (by decide)
theorem dX11_enough_44 : decode cX11_enough 44 = .ok (.iload 5, 2) := by decide +kernel
theorem tX11_enough_44 {d : Nat} {l0 l1 l2 l3 l4 l6 l7 l8 l9 : Option Value} {x : Int32} {m : jmM} {Q : Option Value → jmM → Prop} : AW d 162 44 [l0, l1, l2, l3, l4, some (.int x), l6, l7, l8, l9] [] m Q ↔ AW d 162 46 [l0, l1, l2, l3, l4, some (.int x), l6, l7, l8, l9] [.int x] m Q := A_iload hB_X11_enough dX11_enough_44 rfl
theorem dX11_enough_46 : decode cX11_enough 46 = .ok (.iconst 1, 1) := by decide +kernel
theorem tX11_enough_46 {d : Nat} {l0 l1 l2 l3 l4 l5 l6 l7 l8 l9 : Option Value} {v0 : Value} {m : jmM} {Q : Option Value → jmM → Prop} : AW d 162 46 [l0, l1, l2, l3, l4, l5, l6, l7, l8, l9] [v0] m Q ↔ AW d 162 47 [l0, l1, l2, l3, l4, l5, l6, l7, l8, l9] [.int 1, v0] m Q := A_iconst hB_X11_enough dX11_enough_46 (by decide)
theorem dX11_enough_47 : decode cX11_enough 47 = .ok (.if_icmp .eq 5, 3) := by decide +kernel
theorem tX11_enough_47 {d : Nat} {l0 l1 l2 l3 l4 l5 l6 l7 l8 l9 : Option Value} {x y : Int32} {m : jmM} {Q : Option Value → jmM → Prop} : AW d 162 47 [l0, l1, l2, l3, l4, l5, l6, l7, l8, l9] [.int y, .int x] m Q ↔ if x = y then AW d 162 52 [l0, l1, l2, l3, l4, l5, l6, l7, l8, l9] [] m Q else AW d 162 50 [l0, l1, l2, l3, l4, l5, l6, l7, l8, l9] [] m Q := A_icmp_eq hB_X11_enough dX11_enough_47 (by decide)
theorem dX11_enough_50 : decode cX11_enough 50 = .ok (.iconst (-1), 1) := by decide +kernel
theorem tX11_enough_50 {d : Nat} {l0 l1 l2 l3 l4 l5 l6 l7 l8 l9 : Option Value} {m : jmM} {Q : Option Value → jmM → Prop} : AW d 162 50 [l0, l1, l2, l3, l4, l5, l6, l7, l8, l9] [] m Q ↔ AW d 162 51 [l0, l1, l2, l3, l4, l5, l6, l7, l8, l9] [.int (-1)] m Q := A_iconst hB_X11_enough dX11_enough_50 (by decide)
theorem dX11_enough_51 : decode cX11_enough 51 = .ok (.ireturn, 1) := by decide +kernel
theorem tX11_enough_51 {d : Nat} {l0 l1 l2 l3 l4 l5 l6 l7 l8 l9 : Option Value} {x : Int32} {m : jmM} {Q : Option Value → jmM → Prop} : AW d 162 51 [l0, l1, l2, l3, l4, l5, l6, l7, l8, l9] [.int x] m Q ↔ Q (some (.int x)) m := A_ireturn hB_X11_enough dX11_enough_51 hR_X11_enough
theorem dX11_enough_52 : decode cX11_enough 52 = .ok (.iconst (-1), 1) := by decide +kernel
theorem tX11_enough_52 {d : Nat} {l0 l1 l2 l3 l4 l5 l6 l7 l8 l9 : Option Value} {m : jmM} {Q : Option Value → jmM → Prop} : AW d 162 52 [l0, l1, l2, l3, l4, l5, l6, l7, l8, l9] [] m Q ↔ AW d 162 53 [l0, l1, l2, l3, l4, l5, l6, l7, l8, l9] [.int (-1)] m Q := A_iconst hB_X11_enough dX11_enough_52 (by decide)
theorem dX11_enough_53 : decode cX11_enough 53 = .ok (.istore 6, 2) := by decide +kernel
theorem tX11_enough_53 {d : Nat} {l0 l1 l2 l3 l4 l5 l6 l7 l8 l9 : Option Value} {x : Int32} {m : jmM} {Q : Option Value → jmM → Prop} : AW d 162 53 [l0, l1, l2, l3, l4, l5, l6, l7, l8, l9] [.int x] m Q ↔ AW d 162 55 [l0, l1, l2, l3, l4, jc1 l5, some (.int x), l7, l8, l9] [] m Q := A_istore hB_X11_enough dX11_enough_53 (Nat.le_of_ble_eq_true rfl) rfl
theorem dX11_enough_55 : decode cX11_enough 55 = .ok (.iconst 0, 1) := by decide +kernel
theorem tX11_enough_55 {d : Nat} {l0 l1 l2 l3 l4 l5 l6 l7 l8 l9 : Option Value} {m : jmM} {Q : Option Value → jmM → Prop} : AW d 162 55 [l0, l1, l2, l3, l4, l5, l6, l7, l8, l9] [] m Q ↔ AW d 162 56 [l0, l1, l2, l3, l4, l5, l6, l7, l8, l9] [.int 0] m Q := A_iconst hB_X11_enough dX11_enough_55 (by decide)
theorem dX11_enough_56 : decode cX11_enough 56 = .ok (.istore 7, 2) := by decide +kernel
theorem tX11_enough_56 {d : Nat} {l0 l1 l2 l3 l4 l5 l6 l7 l8 l9 : Option Value} {x : Int32} {m : jmM} {Q : Option Value → jmM → Prop} : AW d 162 56 [l0, l1, l2, l3, l4, l5, l6, l7, l8, l9] [.int x] m Q ↔ AW d 162 58 [l0, l1, l2, l3, l4, l5, jc1 l6, some (.int x), l8, l9] [] m Q := A_istore hB_X11_enough dX11_enough_56 (Nat.le_of_ble_eq_true rfl) rfl
theorem dX11_enough_58 : decode cX11_enough 58 = .ok (.iconst 0, 1) := by decide +kernel
theorem tX11_enough_58 {d : Nat} {l0 l1 l2 l3 l4 l5 l6 l7 l8 l9 : Option Value} {m : jmM} {Q : Option Value → jmM → Prop} : AW d 162 58 [l0, l1, l2, l3, l4, l5, l6, l7, l8, l9] [] m Q ↔ AW d 162 59 [l0, l1, l2, l3, l4, l5, l6, l7, l8, l9] [.int 0] m Q := A_iconst hB_X11_enough dX11_enough_58 (by decide)
theorem dX11_enough_59 : decode cX11_enough 59 = .ok (.istore 8, 2) := by decide +kernel
theorem tX11_enough_59 {d : Nat} {l0 l1 l2 l3 l4 l5 l6 l7 l8 l9 : Option Value} {x : Int32} {m : jmM} {Q : Option Value → jmM → Prop} : AW d 162 59 [l0, l1, l2, l3, l4, l5, l6, l7, l8, l9] [.int x] m Q ↔ AW d 162 61 [l0, l1, l2, l3, l4, l5, l6, jc1 l7, some (.int x), l9] [] m Q := A_istore hB_X11_enough dX11_enough_59 (Nat.le_of_ble_eq_true rfl) rfl
theorem dX11_enough_61 : decode cX11_enough 61 = .ok (.iload 8, 2) := by decide +kernel
theorem tX11_enough_61 {d : Nat} {l0 l1 l2 l3 l4 l5 l6 l7 l9 : Option Value} {x : Int32} {m : jmM} {Q : Option Value → jmM → Prop} : AW d 162 61 [l0, l1, l2, l3, l4, l5, l6, l7, some (.int x), l9] [] m Q ↔ AW d 162 63 [l0, l1, l2, l3, l4, l5, l6, l7, some (.int x), l9] [.int x] m Q := A_iload hB_X11_enough dX11_enough_61 rfl
theorem dX11_enough_63 : decode cX11_enough 63 = .ok (.bipush 60, 2) := by decide +kernel
theorem tX11_enough_63 {d : Nat} {l0 l1 l2 l3 l4 l5 l6 l7 l8 l9 : Option Value} {v0 : Value} {m : jmM} {Q : Option Value → jmM → Prop} : AW d 162 63 [l0, l1, l2, l3, l4, l5, l6, l7, l8, l9] [v0] m Q ↔ AW d 162 65 [l0, l1, l2, l3, l4, l5, l6, l7, l8, l9] [.int 60, v0] m Q := A_bipush hB_X11_enough dX11_enough_63 rfl
theorem dX11_enough_65 : decode cX11_enough 65 = .ok (.if_icmp .gt 72, 3) := by decide +kernel
theorem tX11_enough_65 {d : Nat} {l0 l1 l2 l3 l4 l5 l6 l7 l8 l9 : Option Value} {x y : Int32} {m : jmM} {Q : Option Value → jmM → Prop} : AW d 162 65 [l0, l1, l2, l3, l4, l5, l6, l7, l8, l9] [.int y, .int x] m Q ↔ if y < x then AW d 162 137 [l0, l1, l2, l3, l4, l5, l6, l7, l8, l9] [] m Q else AW d 162 68 [l0, l1, l2, l3, l4, l5, l6, l7, l8, l9] [] m Q := A_icmp_gt hB_X11_enough dX11_enough_65 (by decide)
theorem dX11_enough_68 : decode cX11_enough 68 = .ok (.aload_n 0, 1) := by decide +kernel
theorem tX11_enough_68 {d : Nat} {l1 l2 l3 l4 l5 l6 l7 l8 l9 : Option Value} {x : Nat} {m : jmM} {Q : Option Value → jmM → Prop} : AW d 162 68 [some (.ref x), l1, l2, l3, l4, l5, l6, l7, l8, l9] [] m Q ↔ AW d 162 69 [some (.ref x), l1, l2, l3, l4, l5, l6, l7, l8, l9] [.ref x] m Q := A_aload_n hB_X11_enough dX11_enough_68 rfl
theorem dX11_enough_69 : decode cX11_enough 69 = .ok (.getfield 56, 3) := by decide +kernel
theorem tX11_enough_69 {d : Nat} {l0 l1 l2 l3 l4 l5 l6 l7 l8 l9 : Option Value} {a : Nat} {m : jmM} {Q : Option Value → jmM → Prop} : AW d 162 69 [l0, l1, l2, l3, l4, l5, l6, l7, l8, l9] [.ref a] m Q ↔ (mS m a).1 = 11 ∧ AW d 162 72 [l0, l1, l2, l3, l4, l5, l6, l7, l8, l9] [va_rf (mR m a 8)] m Q := A_getfield (f := fun m a => va_rf (mR m a 8)) hB_X11_enough dX11_enough_69 hO_X11_enough fF_11_56 rfl
theorem dX11_enough_72 : decode cX11_enough 72 = .ok (.iload_n 1, 1) := by decide +kernel
theorem tX11_enough_72 {d : Nat} {l0 l2 l3 l4 l5 l6 l7 l8 l9 : Option Value} {v0 : Value} {x : Int32} {m : jmM} {Q : Option Value → jmM → Prop} : AW d 162 72 [l0, some (.int x), l2, l3, l4, l5, l6, l7, l8, l9] [v0] m Q ↔ AW d 162 73 [l0, some (.int x), l2, l3, l4, l5, l6, l7, l8, l9] [.int x, v0] m Q := A_iload_n hB_X11_enough dX11_enough_72 rfl
theorem dX11_enough_73 : decode cX11_enough 73 = .ok (.iload 8, 2) := by decide +kernel
theorem tX11_enough_73 {d : Nat} {l0 l1 l2 l3 l4 l5 l6 l7 l9 : Option Value} {v0 v1 : Value} {x : Int32} {m : jmM} {Q : Option Value → jmM → Prop} : AW d 162 73 [l0, l1, l2, l3, l4, l5, l6, l7, some (.int x), l9] [v0, v1] m Q ↔ AW d 162 75 [l0, l1, l2, l3, l4, l5, l6, l7, some (.int x), l9] [.int x, v0, v1] m Q := A_iload hB_X11_enough dX11_enough_73 rfl
theorem dX11_enough_75 : decode cX11_enough 75 = .ok (.i2l, 1) := by decide +kernel
theorem tX11_enough_75 {d : Nat} {l0 l1 l2 l3 l4 l5 l6 l7 l8 l9 : Option Value} {v1 v2 : Value} {x : Int32} {m : jmM} {Q : Option Value → jmM → Prop} : AW d 162 75 [l0, l1, l2, l3, l4, l5, l6, l7, l8, l9] [.int x, v1, v2] m Q ↔ AW d 162 76 [l0, l1, l2, l3, l4, l5, l6, l7, l8, l9] [.long x.toInt64, v1, v2] m Q := A_i2l hB_X11_enough dX11_enough_75
theorem dX11_enough_76 : decode cX11_enough 76 = .ok (.iload_n 2, 1) := by decide +kernel
theorem tX11_enough_76 {d : Nat} {l0 l1 l3 l4 l5 l6 l7 l8 l9 : Option Value} {v0 v1 v2 : Value} {x : Int32} {m : jmM} {Q : Option Value → jmM → Prop} : AW d 162 76 [l0, l1, some (.int x), l3, l4, l5, l6, l7, l8, l9] [v0, v1, v2] m Q ↔ AW d 162 77 [l0, l1, some (.int x), l3, l4, l5, l6, l7, l8, l9] [.int x, v0, v1, v2] m Q := A_iload_n hB_X11_enough dX11_enough_76 rfl
theorem dX11_enough_77 : decode cX11_enough 77 = .ok (.i2l, 1) := by decide +kernel
theorem tX11_enough_77 {d : Nat} {l0 l1 l2 l3 l4 l5 l6 l7 l8 l9 : Option Value} {v1 v2 v3 : Value} {x : Int32} {m : jmM} {Q : Option Value → jmM → Prop} : AW d 162 77 [l0, l1, l2, l3, l4, l5, l6, l7, l8, l9] [.int x, v1, v2, v3] m Q ↔ AW d 162 78 [l0, l1, l2, l3, l4, l5, l6, l7, l8, l9] [.long x.toInt64, v1, v2, v3] m Q := A_i2l hB_X11_enough dX11_enough_77
theorem dX11_enough_78 : decode cX11_enough 78 = .ok (.lmul, 1) := by decide +kernel
theorem tX11_enough_78 {d : Nat} {l0 l1 l2 l3 l4 l5 l6 l7 l8 l9 : Option Value} {v2 v3 : Value} {x y : Int64} {m : jmM} {Q : Option Value → jmM → Prop} : AW d 162 78 [l0, l1, l2, l3, l4, l5, l6, l7, l8, l9] [.long y, .long x, v2, v3] m Q ↔ AW d 162 79 [l0, l1, l2, l3, l4, l5, l6, l7, l8, l9] [.long (x * y), v2, v3] m Q := A_lmul hB_X11_enough dX11_enough_78
theorem dX11_enough_79 : decode cX11_enough 79 = .ok (.aload_n 0, 1) := by decide +kernel
theorem tX11_enough_79 {d : Nat} {l1 l2 l3 l4 l5 l6 l7 l8 l9 : Option Value} {v0 v1 v2 : Value} {x : Nat} {m : jmM} {Q : Option Value → jmM → Prop} : AW d 162 79 [some (.ref x), l1, l2, l3, l4, l5, l6, l7, l8, l9] [v0, v1, v2] m Q ↔ AW d 162 80 [some (.ref x), l1, l2, l3, l4, l5, l6, l7, l8, l9] [.ref x, v0, v1, v2] m Q := A_aload_n hB_X11_enough dX11_enough_79 rfl
theorem dX11_enough_80 : decode cX11_enough 80 = .ok (.getfield 56, 3) := by decide +kernel
theorem tX11_enough_80 {d : Nat} {l0 l1 l2 l3 l4 l5 l6 l7 l8 l9 : Option Value} {v1 v2 v3 : Value} {a : Nat} {m : jmM} {Q : Option Value → jmM → Prop} : AW d 162 80 [l0, l1, l2, l3, l4, l5, l6, l7, l8, l9] [.ref a, v1, v2, v3] m Q ↔ (mS m a).1 = 11 ∧ AW d 162 83 [l0, l1, l2, l3, l4, l5, l6, l7, l8, l9] [va_rf (mR m a 8), v1, v2, v3] m Q := A_getfield (f := fun m a => va_rf (mR m a 8)) hB_X11_enough dX11_enough_80 hO_X11_enough fF_11_56 rfl
theorem dX11_enough_83 : decode cX11_enough 83 = .ok (.invokevirtual 141, 3) := by decide +kernel
theorem tX11_enough_83 {d : Nat} {l0 l1 l2 l3 l4 l5 l6 l7 l8 l9 : Option Value} {v1 v2 v3 : Value} {a : Nat} {m : jmM} {Q : Option Value → jmM → Prop} : AW d 162 83 [l0, l1, l2, l3, l4, l5, l6, l7, l8, l9] [.ref a, v1, v2, v3] m Q ↔ (mS m a).1 = 5 ∧ CC d 47 [.ref a] m (jK d 162 86 [l0, l1, l2, l3, l4, l5, l6, l7, l8, l9] [v1, v2, v3] Q) := A_callV hB_X11_enough dX11_enough_83 hO_X11_enough fS_11_141 ⟨Nat.le_of_ble_eq_true rfl, Nat.le_of_ble_eq_true rfl⟩ rfl rfl rfl
theorem dX11_enough_86 : decode cX11_enough 86 = .ok (.iload_n 1, 1) := by decide +kernel
theorem tX11_enough_86 {d : Nat} {l0 l2 l3 l4 l5 l6 l7 l8 l9 : Option Value} {v0 v1 v2 v3 : Value} {x : Int32} {m : jmM} {Q : Option Value → jmM → Prop} : AW d 162 86 [l0, some (.int x), l2, l3, l4, l5, l6, l7, l8, l9] [v0, v1, v2, v3] m Q ↔ AW d 162 87 [l0, some (.int x), l2, l3, l4, l5, l6, l7, l8, l9] [.int x, v0, v1, v2, v3] m Q := A_iload_n hB_X11_enough dX11_enough_86 rfl
theorem dX11_enough_87 : decode cX11_enough 87 = .ok (.invokevirtual 261, 3) := by decide +kernel
theorem tX11_enough_87 {d : Nat} {l0 l1 l2 l3 l4 l5 l6 l7 l8 l9 : Option Value} {v2 v3 v4 : Value} {y0 : Value} {a : Nat} {m : jmM} {Q : Option Value → jmM → Prop} : AW d 162 87 [l0, l1, l2, l3, l4, l5, l6, l7, l8, l9] [y0, .ref a, v2, v3, v4] m Q ↔ (mS m a).1 = 8 ∧ CC d 129 [.ref a, y0] m (jK d 162 90 [l0, l1, l2, l3, l4, l5, l6, l7, l8, l9] [v2, v3, v4] Q) := A_callV hB_X11_enough dX11_enough_87 hO_X11_enough fS_11_261 ⟨Nat.le_of_ble_eq_true rfl, Nat.le_of_ble_eq_true rfl⟩ rfl rfl rfl
theorem dX11_enough_90 : decode cX11_enough 90 = .ok (.aload_n 0, 1) := by decide +kernel
theorem tX11_enough_90 {d : Nat} {l1 l2 l3 l4 l5 l6 l7 l8 l9 : Option Value} {v0 v1 v2 v3 : Value} {x : Nat} {m : jmM} {Q : Option Value → jmM → Prop} : AW d 162 90 [some (.ref x), l1, l2, l3, l4, l5, l6, l7, l8, l9] [v0, v1, v2, v3] m Q ↔ AW d 162 91 [some (.ref x), l1, l2, l3, l4, l5, l6, l7, l8, l9] [.ref x, v0, v1, v2, v3] m Q := A_aload_n hB_X11_enough dX11_enough_90 rfl
theorem dX11_enough_91 : decode cX11_enough 91 = .ok (.getfield 92, 3) := by decide +kernel
theorem tX11_enough_91 {d : Nat} {l0 l1 l2 l3 l4 l5 l6 l7 l8 l9 : Option Value} {v1 v2 v3 v4 : Value} {a : Nat} {m : jmM} {Q : Option Value → jmM → Prop} : AW d 162 91 [l0, l1, l2, l3, l4, l5, l6, l7, l8, l9] [.ref a, v1, v2, v3, v4] m Q ↔ (mS m a).1 = 11 ∧ AW d 162 94 [l0, l1, l2, l3, l4, l5, l6, l7, l8, l9] [va_rf (mR m a 15), v1, v2, v3, v4] m Q := A_getfield (f := fun m a => va_rf (mR m a 15)) hB_X11_enough dX11_enough_91 hO_X11_enough fF_11_92 rfl
theorem dX11_enough_94 : decode cX11_enough 94 = .ok (.invokevirtual 264, 3) := by decide +kernel
theorem tX11_enough_94 {d : Nat} {l0 l1 l2 l3 l4 l5 l6 l7 l8 l9 : Option Value} {y0 y1 y2 y3 : Value} {a : Nat} {m : jmM} {Q : Option Value → jmM → Prop} : AW d 162 94 [l0, l1, l2, l3, l4, l5, l6, l7, l8, l9] [y0, y1, y2, y3, .ref a] m Q ↔ (mS m a).1 = 5 ∧ CC d 71 [.ref a, y3, y2, y1, y0] m (jK d 162 97 [l0, l1, l2, l3, l4, l5, l6, l7, l8, l9] [] Q) := A_callV hB_X11_enough dX11_enough_94 hO_X11_enough fS_11_264 ⟨Nat.le_of_ble_eq_true rfl, Nat.le_of_ble_eq_true rfl⟩ rfl rfl rfl
theorem dX11_enough_97 : decode cX11_enough 97 = .ok (.aload_n 0, 1) := by decide +kernel
theorem tX11_enough_97 {d : Nat} {l1 l2 l3 l4 l5 l6 l7 l8 l9 : Option Value} {x : Nat} {m : jmM} {Q : Option Value → jmM → Prop} : AW d 162 97 [some (.ref x), l1, l2, l3, l4, l5, l6, l7, l8, l9] [] m Q ↔ AW d 162 98 [some (.ref x), l1, l2, l3, l4, l5, l6, l7, l8, l9] [.ref x] m Q := A_aload_n hB_X11_enough dX11_enough_97 rfl
theorem dX11_enough_98 : decode cX11_enough 98 = .ok (.getfield 92, 3) := by decide +kernel
theorem tX11_enough_98 {d : Nat} {l0 l1 l2 l3 l4 l5 l6 l7 l8 l9 : Option Value} {a : Nat} {m : jmM} {Q : Option Value → jmM → Prop} : AW d 162 98 [l0, l1, l2, l3, l4, l5, l6, l7, l8, l9] [.ref a] m Q ↔ (mS m a).1 = 11 ∧ AW d 162 101 [l0, l1, l2, l3, l4, l5, l6, l7, l8, l9] [va_rf (mR m a 15)] m Q := A_getfield (f := fun m a => va_rf (mR m a 15)) hB_X11_enough dX11_enough_98 hO_X11_enough fF_11_92 rfl
theorem dX11_enough_101 : decode cX11_enough 101 = .ok (.aload_n 0, 1) := by decide +kernel
theorem tX11_enough_101 {d : Nat} {l1 l2 l3 l4 l5 l6 l7 l8 l9 : Option Value} {v0 : Value} {x : Nat} {m : jmM} {Q : Option Value → jmM → Prop} : AW d 162 101 [some (.ref x), l1, l2, l3, l4, l5, l6, l7, l8, l9] [v0] m Q ↔ AW d 162 102 [some (.ref x), l1, l2, l3, l4, l5, l6, l7, l8, l9] [.ref x, v0] m Q := A_aload_n hB_X11_enough dX11_enough_101 rfl
theorem dX11_enough_102 : decode cX11_enough 102 = .ok (.getfield 56, 3) := by decide +kernel
theorem tX11_enough_102 {d : Nat} {l0 l1 l2 l3 l4 l5 l6 l7 l8 l9 : Option Value} {v1 : Value} {a : Nat} {m : jmM} {Q : Option Value → jmM → Prop} : AW d 162 102 [l0, l1, l2, l3, l4, l5, l6, l7, l8, l9] [.ref a, v1] m Q ↔ (mS m a).1 = 11 ∧ AW d 162 105 [l0, l1, l2, l3, l4, l5, l6, l7, l8, l9] [va_rf (mR m a 8), v1] m Q := A_getfield (f := fun m a => va_rf (mR m a 8)) hB_X11_enough dX11_enough_102 hO_X11_enough fF_11_56 rfl
theorem dX11_enough_105 : decode cX11_enough 105 = .ok (.invokevirtual 170, 3) := by decide +kernel
theorem tX11_enough_105 {d : Nat} {l0 l1 l2 l3 l4 l5 l6 l7 l8 l9 : Option Value} {v1 : Value} {a : Nat} {m : jmM} {Q : Option Value → jmM → Prop} : AW d 162 105 [l0, l1, l2, l3, l4, l5, l6, l7, l8, l9] [.ref a, v1] m Q ↔ (mS m a).1 = 5 ∧ CC d 74 [.ref a] m (jK d 162 108 [l0, l1, l2, l3, l4, l5, l6, l7, l8, l9] [v1] Q) := A_callV hB_X11_enough dX11_enough_105 hO_X11_enough fS_11_170 ⟨Nat.le_of_ble_eq_true rfl, Nat.le_of_ble_eq_true rfl⟩ rfl rfl rfl
theorem dX11_enough_108 : decode cX11_enough 108 = .ok (.iload_n 3, 1) := by decide +kernel
theorem tX11_enough_108 {d : Nat} {l0 l1 l2 l4 l5 l6 l7 l8 l9 : Option Value} {v0 v1 : Value} {x : Int32} {m : jmM} {Q : Option Value → jmM → Prop} : AW d 162 108 [l0, l1, l2, some (.int x), l4, l5, l6, l7, l8, l9] [v0, v1] m Q ↔ AW d 162 109 [l0, l1, l2, some (.int x), l4, l5, l6, l7, l8, l9] [.int x, v0, v1] m Q := A_iload_n hB_X11_enough dX11_enough_108 rfl
theorem dX11_enough_109 : decode cX11_enough 109 = .ok (.iload 4, 2) := by decide +kernel
theorem tX11_enough_109 {d : Nat} {l0 l1 l2 l3 l5 l6 l7 l8 l9 : Option Value} {v0 v1 v2 : Value} {x : Int32} {m : jmM} {Q : Option Value → jmM → Prop} : AW d 162 109 [l0, l1, l2, l3, some (.int x), l5, l6, l7, l8, l9] [v0, v1, v2] m Q ↔ AW d 162 111 [l0, l1, l2, l3, some (.int x), l5, l6, l7, l8, l9] [.int x, v0, v1, v2] m Q := A_iload hB_X11_enough dX11_enough_109 rfl
theorem dX11_enough_111 : decode cX11_enough 111 = .ok (.invokestatic 268, 3) := by decide +kernel
theorem tX11_enough_111 {d : Nat} {l0 l1 l2 l3 l4 l5 l6 l7 l8 l9 : Option Value} {y0 y1 y2 y3 : Value} {m : jmM} {Q : Option Value → jmM → Prop} : AW d 162 111 [l0, l1, l2, l3, l4, l5, l6, l7, l8, l9] [y0, y1, y2, y3] m Q ↔ CC d 180 [y3, y2, y1, y0] m (jK d 162 114 [l0, l1, l2, l3, l4, l5, l6, l7, l8, l9] [] Q) := A_callS0 hB_X11_enough dX11_enough_111 hO_X11_enough fS_11_268 ⟨Nat.le_of_ble_eq_true rfl, Nat.le_of_ble_eq_true rfl⟩ rfl rfl
theorem dX11_enough_114 : decode cX11_enough 114 = .ok (.istore 9, 2) := by decide +kernel
theorem tX11_enough_114 {d : Nat} {l0 l1 l2 l3 l4 l5 l6 l7 l8 l9 : Option Value} {x : Int32} {m : jmM} {Q : Option Value → jmM → Prop} : AW d 162 114 [l0, l1, l2, l3, l4, l5, l6, l7, l8, l9] [.int x] m Q ↔ AW d 162 116 [l0, l1, l2, l3, l4, l5, l6, l7, jc1 l8, some (.int x)] [] m Q := A_istore hB_X11_enough dX11_enough_114 (Nat.le_of_ble_eq_true rfl) rfl
theorem dX11_enough_116 : decode cX11_enough 116 = .ok (.iload 9, 2) := by decide +kernel
theorem tX11_enough_116 {d : Nat} {l0 l1 l2 l3 l4 l5 l6 l7 l8 : Option Value} {x : Int32} {m : jmM} {Q : Option Value → jmM → Prop} : AW d 162 116 [l0, l1, l2, l3, l4, l5, l6, l7, l8, some (.int x)] [] m Q ↔ AW d 162 118 [l0, l1, l2, l3, l4, l5, l6, l7, l8, some (.int x)] [.int x] m Q := A_iload hB_X11_enough dX11_enough_116 rfl
theorem dX11_enough_118 : decode cX11_enough 118 = .ok (.iload 6, 2) := by decide +kernel
theorem tX11_enough_118 {d : Nat} {l0 l1 l2 l3 l4 l5 l7 l8 l9 : Option Value} {v0 : Value} {x : Int32} {m : jmM} {Q : Option Value → jmM → Prop} : AW d 162 118 [l0, l1, l2, l3, l4, l5, some (.int x), l7, l8, l9] [v0] m Q ↔ AW d 162 120 [l0, l1, l2, l3, l4, l5, some (.int x), l7, l8, l9] [.int x, v0] m Q := A_iload hB_X11_enough dX11_enough_118 rfl
theorem dX11_enough_120 : decode cX11_enough 120 = .ok (.if_icmp .le 11, 3) := by decide +kernel
theorem tX11_enough_120 {d : Nat} {l0 l1 l2 l3 l4 l5 l6 l7 l8 l9 : Option Value} {x y : Int32} {m : jmM} {Q : Option Value → jmM → Prop} : AW d 162 120 [l0, l1, l2, l3, l4, l5, l6, l7, l8, l9] [.int y, .int x] m Q ↔ if x ≤ y then AW d 162 131 [l0, l1, l2, l3, l4, l5, l6, l7, l8, l9] [] m Q else AW d 162 123 [l0, l1, l2, l3, l4, l5, l6, l7, l8, l9] [] m Q := A_icmp_le hB_X11_enough dX11_enough_120 (by decide)
theorem dX11_enough_123 : decode cX11_enough 123 = .ok (.iload 9, 2) := by decide +kernel
theorem tX11_enough_123 {d : Nat} {l0 l1 l2 l3 l4 l5 l6 l7 l8 : Option Value} {x : Int32} {m : jmM} {Q : Option Value → jmM → Prop} : AW d 162 123 [l0, l1, l2, l3, l4, l5, l6, l7, l8, some (.int x)] [] m Q ↔ AW d 162 125 [l0, l1, l2, l3, l4, l5, l6, l7, l8, some (.int x)] [.int x] m Q := A_iload hB_X11_enough dX11_enough_123 rfl
theorem dX11_enough_125 : decode cX11_enough 125 = .ok (.istore 6, 2) := by decide +kernel
theorem tX11_enough_125 {d : Nat} {l0 l1 l2 l3 l4 l5 l6 l7 l8 l9 : Option Value} {x : Int32} {m : jmM} {Q : Option Value → jmM → Prop} : AW d 162 125 [l0, l1, l2, l3, l4, l5, l6, l7, l8, l9] [.int x] m Q ↔ AW d 162 127 [l0, l1, l2, l3, l4, jc1 l5, some (.int x), l7, l8, l9] [] m Q := A_istore hB_X11_enough dX11_enough_125 (Nat.le_of_ble_eq_true rfl) rfl
theorem dX11_enough_127 : decode cX11_enough 127 = .ok (.iload 8, 2) := by decide +kernel
theorem tX11_enough_127 {d : Nat} {l0 l1 l2 l3 l4 l5 l6 l7 l9 : Option Value} {x : Int32} {m : jmM} {Q : Option Value → jmM → Prop} : AW d 162 127 [l0, l1, l2, l3, l4, l5, l6, l7, some (.int x), l9] [] m Q ↔ AW d 162 129 [l0, l1, l2, l3, l4, l5, l6, l7, some (.int x), l9] [.int x] m Q := A_iload hB_X11_enough dX11_enough_127 rfl
theorem dX11_enough_129 : decode cX11_enough 129 = .ok (.istore 7, 2) := by decide +kernel
theorem tX11_enough_129 {d : Nat} {l0 l1 l2 l3 l4 l5 l6 l7 l8 l9 : Option Value} {x : Int32} {m : jmM} {Q : Option Value → jmM → Prop} : AW d 162 129 [l0, l1, l2, l3, l4, l5, l6, l7, l8, l9] [.int x] m Q ↔ AW d 162 131 [l0, l1, l2, l3, l4, l5, jc1 l6, some (.int x), l8, l9] [] m Q := A_istore hB_X11_enough dX11_enough_129 (Nat.le_of_ble_eq_true rfl) rfl
theorem dX11_enough_131 : decode cX11_enough 131 = .ok (.iinc 8 1, 3) := by decide +kernel
theorem tX11_enough_131 {d : Nat} {l0 l1 l2 l3 l4 l5 l6 l7 l9 : Option Value} {x : Int32} {m : jmM} {Q : Option Value → jmM → Prop} : AW d 162 131 [l0, l1, l2, l3, l4, l5, l6, l7, some (.int x), l9] [] m Q ↔ AW d 162 134 [l0, l1, l2, l3, l4, l5, l6, jc1 l7, some (.int (x + 1)), l9] [] m Q := A_iinc hB_X11_enough dX11_enough_131 rfl (Nat.le_of_ble_eq_true rfl) (v := 1) (by decide) rfl
theorem dX11_enough_134 : decode cX11_enough 134 = .ok (.goto (-73), 3) := by decide +kernel
theorem tX11_enough_134 {d : Nat} {l0 l1 l2 l3 l4 l5 l6 l7 l8 l9 : Option Value} {m : jmM} {Q : Option Value → jmM → Prop} : AW d 162 134 [l0, l1, l2, l3, l4, l5, l6, l7, l8, l9] [] m Q ↔ AW d 162 61 [l0, l1, l2, l3, l4, l5, l6, l7, l8, l9] [] m Q := A_goto hB_X11_enough dX11_enough_134 (by decide)
theorem dX11_enough_137 : decode cX11_enough 137 = .ok (.iload 5, 2) := by decide +kernel
theorem tX11_enough_137 {d : Nat} {l0 l1 l2 l3 l4 l6 l7 l8 l9 : Option Value} {x : Int32} {m : jmM} {Q : Option Value → jmM → Prop} : AW d 162 137 [l0, l1, l2, l3, l4, some (.int x), l6, l7, l8, l9] [] m Q ↔ AW d 162 139 [l0, l1, l2, l3, l4, some (.int x), l6, l7, l8, l9] [.int x] m Q := A_iload hB_X11_enough dX11_enough_137 rfl
theorem dX11_enough_139 : decode cX11_enough 139 = .ok (.ifCond .ne 8, 3) := by decide +kernel
theorem tX11_enough_139 {d : Nat} {l0 l1 l2 l3 l4 l5 l6 l7 l8 l9 : Option Value} {x : Int32} {m : jmM} {Q : Option Value → jmM → Prop} : AW d 162 139 [l0, l1, l2, l3, l4, l5, l6, l7, l8, l9] [.int x] m Q ↔ if x = 0 then AW d 162 142 [l0, l1, l2, l3, l4, l5, l6, l7, l8, l9] [] m Q else AW d 162 147 [l0, l1, l2, l3, l4, l5, l6, l7, l8, l9] [] m Q := A_if_ne hB_X11_enough dX11_enough_139 (by decide)
theorem dX11_enough_142 : decode cX11_enough 142 = .ok (.iload 7, 2) := by decide +kernel
theorem tX11_enough_142 {d : Nat} {l0 l1 l2 l3 l4 l5 l6 l8 l9 : Option Value} {x : Int32} {m : jmM} {Q : Option Value → jmM → Prop} : AW d 162 142 [l0, l1, l2, l3, l4, l5, l6, some (.int x), l8, l9] [] m Q ↔ AW d 162 144 [l0, l1, l2, l3, l4, l5, l6, some (.int x), l8, l9] [.int x] m Q := A_iload hB_X11_enough dX11_enough_142 rfl
theorem dX11_enough_144 : decode cX11_enough 144 = .ok (.goto 5, 3) := by decide +kernel
theorem tX11_enough_144 {d : Nat} {l0 l1 l2 l3 l4 l5 l6 l7 l8 l9 : Option Value} {v0 : Value} {m : jmM} {Q : Option Value → jmM → Prop} : AW d 162 144 [l0, l1, l2, l3, l4, l5, l6, l7, l8, l9] [v0] m Q ↔ AW d 162 149 [l0, l1, l2, l3, l4, l5, l6, l7, l8, l9] [v0] m Q := A_goto hB_X11_enough dX11_enough_144 (by decide)
theorem dX11_enough_147 : decode cX11_enough 147 = .ok (.iload 6, 2) := by decide +kernel
theorem tX11_enough_147 {d : Nat} {l0 l1 l2 l3 l4 l5 l7 l8 l9 : Option Value} {x : Int32} {m : jmM} {Q : Option Value → jmM → Prop} : AW d 162 147 [l0, l1, l2, l3, l4, l5, some (.int x), l7, l8, l9] [] m Q ↔ AW d 162 149 [l0, l1, l2, l3, l4, l5, some (.int x), l7, l8, l9] [.int x] m Q := A_iload hB_X11_enough dX11_enough_147 rfl
theorem dX11_enough_149 : decode cX11_enough 149 = .ok (.ireturn, 1) := by decide +kernel
theorem tX11_enough_149 {d : Nat} {l0 l1 l2 l3 l4 l5 l6 l7 l8 l9 : Option Value} {x : Int32} {m : jmM} {Q : Option Value → jmM → Prop} : AW d 162 149 [l0, l1, l2, l3, l4, l5, l6, l7, l8, l9] [.int x] m Q ↔ Q (some (.int x)) m := A_ireturn hB_X11_enough dX11_enough_149 hR_X11_enough
theorem hB_X11_wander : jB 163 = cX11_wander := rfl
theorem hO_X11_wander : jO 163 = 11 := rfl
theorem hR_X11_wander : jRt 163 = (some .int) := rfl
theorem nX11_wander (d : Nat) (x0 : Nat) (x1 : Int32) (x2 : Int32) (x3 : Int32) (m : jmM) (Q : Option Value → jmM → Prop) : CC (d + 1) 163 [.ref x0, .int x1, .int x2, .int x3] m Q ↔ AW d 163 0 [some (.ref x0), some (.int x1), some (.int x2), some (.int x3)] [] m Q := CC_body (Nat.le_of_ble_eq_true rfl)
theorem dX11_wander_0 : decode cX11_wander 0 = .ok (.aload_n 0, 1) := by decide +kernel
theorem tX11_wander_0 {d : Nat} {l1 l2 l3 : Option Value} {x : Nat} {m : jmM} {Q : Option Value → jmM → Prop} : AW d 163 0 [some (.ref x), l1, l2, l3] [] m Q ↔ AW d 163 1 [some (.ref x), l1, l2, l3] [.ref x] m Q := A_aload_n hB_X11_wander dX11_wander_0 rfl
theorem dX11_wander_1 : decode cX11_wander 1 = .ok (.getfield 56, 3) := by decide +kernel
theorem tX11_wander_1 {d : Nat} {l0 l1 l2 l3 : Option Value} {a : Nat} {m : jmM} {Q : Option Value → jmM → Prop} : AW d 163 1 [l0, l1, l2, l3] [.ref a] m Q ↔ (mS m a).1 = 11 ∧ AW d 163 4 [l0, l1, l2, l3] [va_rf (mR m a 8)] m Q := A_getfield (f := fun m a => va_rf (mR m a 8)) hB_X11_wander dX11_wander_1 hO_X11_wander fF_11_56 rfl
theorem dX11_wander_4 : decode cX11_wander 4 = .ok (.iload_n 1, 1) := by decide +kernel
theorem tX11_wander_4 {d : Nat} {l0 l2 l3 : Option Value} {v0 : Value} {x : Int32} {m : jmM} {Q : Option Value → jmM → Prop} : AW d 163 4 [l0, some (.int x), l2, l3] [v0] m Q ↔ AW d 163 5 [l0, some (.int x), l2, l3] [.int x, v0] m Q := A_iload_n hB_X11_wander dX11_wander_4 rfl
theorem dX11_wander_5 : decode cX11_wander 5 = .ok (.invokevirtual 193, 3) := by decide +kernel
theorem tX11_wander_5 {d : Nat} {l0 l1 l2 l3 : Option Value} {y0 : Value} {a : Nat} {m : jmM} {Q : Option Value → jmM → Prop} : AW d 163 5 [l0, l1, l2, l3] [y0, .ref a] m Q ↔ (mS m a).1 = 5 ∧ CC d 72 [.ref a, y0] m (jK d 163 8 [l0, l1, l2, l3] [] Q) := A_callV hB_X11_wander dX11_wander_5 hO_X11_wander fS_11_193 ⟨Nat.le_of_ble_eq_true rfl, Nat.le_of_ble_eq_true rfl⟩ rfl rfl rfl
theorem dX11_wander_8 : decode cX11_wander 8 = .ok (.ifCond .eq 19, 3) := by decide +kernel
theorem tX11_wander_8 {d : Nat} {l0 l1 l2 l3 : Option Value} {x : Int32} {m : jmM} {Q : Option Value → jmM → Prop} : AW d 163 8 [l0, l1, l2, l3] [.int x] m Q ↔ if x = 0 then AW d 163 27 [l0, l1, l2, l3] [] m Q else AW d 163 11 [l0, l1, l2, l3] [] m Q := A_if_eq hB_X11_wander dX11_wander_8 (by decide)
theorem dX11_wander_11 : decode cX11_wander 11 = .ok (.aload_n 0, 1) := by decide +kernel
theorem tX11_wander_11 {d : Nat} {l1 l2 l3 : Option Value} {x : Nat} {m : jmM} {Q : Option Value → jmM → Prop} : AW d 163 11 [some (.ref x), l1, l2, l3] [] m Q ↔ AW d 163 12 [some (.ref x), l1, l2, l3] [.ref x] m Q := A_aload_n hB_X11_wander dX11_wander_11 rfl
theorem dX11_wander_12 : decode cX11_wander 12 = .ok (.getfield 56, 3) := by decide +kernel
theorem tX11_wander_12 {d : Nat} {l0 l1 l2 l3 : Option Value} {a : Nat} {m : jmM} {Q : Option Value → jmM → Prop} : AW d 163 12 [l0, l1, l2, l3] [.ref a] m Q ↔ (mS m a).1 = 11 ∧ AW d 163 15 [l0, l1, l2, l3] [va_rf (mR m a 8)] m Q := A_getfield (f := fun m a => va_rf (mR m a 8)) hB_X11_wander dX11_wander_12 hO_X11_wander fF_11_56 rfl
theorem dX11_wander_15 : decode cX11_wander 15 = .ok (.iload_n 2, 1) := by decide +kernel
theorem tX11_wander_15 {d : Nat} {l0 l1 l3 : Option Value} {v0 : Value} {x : Int32} {m : jmM} {Q : Option Value → jmM → Prop} : AW d 163 15 [l0, l1, some (.int x), l3] [v0] m Q ↔ AW d 163 16 [l0, l1, some (.int x), l3] [.int x, v0] m Q := A_iload_n hB_X11_wander dX11_wander_15 rfl
theorem dX11_wander_16 : decode cX11_wander 16 = .ok (.invokevirtual 193, 3) := by decide +kernel
theorem tX11_wander_16 {d : Nat} {l0 l1 l2 l3 : Option Value} {y0 : Value} {a : Nat} {m : jmM} {Q : Option Value → jmM → Prop} : AW d 163 16 [l0, l1, l2, l3] [y0, .ref a] m Q ↔ (mS m a).1 = 5 ∧ CC d 72 [.ref a, y0] m (jK d 163 19 [l0, l1, l2, l3] [] Q) := A_callV hB_X11_wander dX11_wander_16 hO_X11_wander fS_11_193 ⟨Nat.le_of_ble_eq_true rfl, Nat.le_of_ble_eq_true rfl⟩ rfl rfl rfl
theorem dX11_wander_19 : decode cX11_wander 19 = .ok (.ifCond .eq 8, 3) := by decide +kernel
theorem tX11_wander_19 {d : Nat} {l0 l1 l2 l3 : Option Value} {x : Int32} {m : jmM} {Q : Option Value → jmM → Prop} : AW d 163 19 [l0, l1, l2, l3] [.int x] m Q ↔ if x = 0 then AW d 163 27 [l0, l1, l2, l3] [] m Q else AW d 163 22 [l0, l1, l2, l3] [] m Q := A_if_eq hB_X11_wander dX11_wander_19 (by decide)
theorem dX11_wander_22 : decode cX11_wander 22 = .ok (.iload_n 2, 1) := by decide +kernel
theorem tX11_wander_22 {d : Nat} {l0 l1 l3 : Option Value} {x : Int32} {m : jmM} {Q : Option Value → jmM → Prop} : AW d 163 22 [l0, l1, some (.int x), l3] [] m Q ↔ AW d 163 23 [l0, l1, some (.int x), l3] [.int x] m Q := A_iload_n hB_X11_wander dX11_wander_22 rfl
theorem dX11_wander_23 : decode cX11_wander 23 = .ok (.iload_n 1, 1) := by decide +kernel
theorem tX11_wander_23 {d : Nat} {l0 l2 l3 : Option Value} {v0 : Value} {x : Int32} {m : jmM} {Q : Option Value → jmM → Prop} : AW d 163 23 [l0, some (.int x), l2, l3] [v0] m Q ↔ AW d 163 24 [l0, some (.int x), l2, l3] [.int x, v0] m Q := A_iload_n hB_X11_wander dX11_wander_23 rfl
theorem dX11_wander_24 : decode cX11_wander 24 = .ok (.if_icmp .ge 5, 3) := by decide +kernel
theorem tX11_wander_24 {d : Nat} {l0 l1 l2 l3 : Option Value} {x y : Int32} {m : jmM} {Q : Option Value → jmM → Prop} : AW d 163 24 [l0, l1, l2, l3] [.int y, .int x] m Q ↔ if y ≤ x then AW d 163 29 [l0, l1, l2, l3] [] m Q else AW d 163 27 [l0, l1, l2, l3] [] m Q := A_icmp_ge hB_X11_wander dX11_wander_24 (by decide)
theorem dX11_wander_27 : decode cX11_wander 27 = .ok (.iconst (-1), 1) := by decide +kernel
theorem tX11_wander_27 {d : Nat} {l0 l1 l2 l3 : Option Value} {m : jmM} {Q : Option Value → jmM → Prop} : AW d 163 27 [l0, l1, l2, l3] [] m Q ↔ AW d 163 28 [l0, l1, l2, l3] [.int (-1)] m Q := A_iconst hB_X11_wander dX11_wander_27 (by decide)
theorem dX11_wander_28 : decode cX11_wander 28 = .ok (.ireturn, 1) := by decide +kernel
theorem tX11_wander_28 {d : Nat} {l0 l1 l2 l3 : Option Value} {x : Int32} {m : jmM} {Q : Option Value → jmM → Prop} : AW d 163 28 [l0, l1, l2, l3] [.int x] m Q ↔ Q (some (.int x)) m := A_ireturn hB_X11_wander dX11_wander_28 hR_X11_wander
theorem dX11_wander_29 : decode cX11_wander 29 = .ok (.iload_n 3, 1) := by decide +kernel
theorem tX11_wander_29 {d : Nat} {l0 l1 l2 : Option Value} {x : Int32} {m : jmM} {Q : Option Value → jmM → Prop} : AW d 163 29 [l0, l1, l2, some (.int x)] [] m Q ↔ AW d 163 30 [l0, l1, l2, some (.int x)] [.int x] m Q := A_iload_n hB_X11_wander dX11_wander_29 rfl
theorem dX11_wander_30 : decode cX11_wander 30 = .ok (.lookupswitch 46 #[(0, 26), (1, 36)], 26) := by decide +kernel
theorem tX11_wander_30 {d : Nat} {l0 l1 l2 l3 : Option Value} {x : Int32} {m : jmM} {Q : Option Value → jmM → Prop} : AW d 163 30 [l0, l1, l2, l3] [.int x] m Q ↔ if x = 0 then AW d 163 56 [l0, l1, l2, l3] [] m Q else if x = 1 then AW d 163 66 [l0, l1, l2, l3] [] m Q else AW d 163 76 [l0, l1, l2, l3] [] m Q := by
  by_cases h0 : x = 0
  · subst h0; rw [if_pos rfl]; exact A_lookup hB_X11_wander dX11_wander_30 (by decide) (by decide)
  rw [if_neg h0]
  have e0 := i32_ne (n := 0) (by decide) h0
  by_cases h1 : x = 1
  · subst h1; rw [if_pos rfl]; exact A_lookup hB_X11_wander dX11_wander_30 (by decide) (by decide)
  rw [if_neg h1]
  have e1 := i32_ne (n := 1) (by decide) h1
  refine A_lookup hB_X11_wander dX11_wander_30 (t := 76) (by decide) ?_
  have e9 : Op.lookupswitch.offset [(0, 26), (1, 36)] (46) x.toInt = 46 := by
    simp [Op.lookupswitch.offset, Ne.symm e0, e0, Ne.symm e1, e1]
  show (30 : Int) + Op.lookupswitch.offset [(0, 26), (1, 36)] (46) x.toInt = _
  rw [e9]; rfl
theorem dX11_wander_56 : decode cX11_wander 56 = .ok (.aload_n 0, 1) := by decide +kernel
theorem tX11_wander_56 {d : Nat} {l1 l2 l3 : Option Value} {x : Nat} {m : jmM} {Q : Option Value → jmM → Prop} : AW d 163 56 [some (.ref x), l1, l2, l3] [] m Q ↔ AW d 163 57 [some (.ref x), l1, l2, l3] [.ref x] m Q := A_aload_n hB_X11_wander dX11_wander_56 rfl
theorem dX11_wander_57 : decode cX11_wander 57 = .ok (.getfield 56, 3) := by decide +kernel
theorem tX11_wander_57 {d : Nat} {l0 l1 l2 l3 : Option Value} {a : Nat} {m : jmM} {Q : Option Value → jmM → Prop} : AW d 163 57 [l0, l1, l2, l3] [.ref a] m Q ↔ (mS m a).1 = 11 ∧ AW d 163 60 [l0, l1, l2, l3] [va_rf (mR m a 8)] m Q := A_getfield (f := fun m a => va_rf (mR m a 8)) hB_X11_wander dX11_wander_57 hO_X11_wander fF_11_56 rfl
theorem dX11_wander_60 : decode cX11_wander 60 = .ok (.iload_n 1, 1) := by decide +kernel
theorem tX11_wander_60 {d : Nat} {l0 l2 l3 : Option Value} {v0 : Value} {x : Int32} {m : jmM} {Q : Option Value → jmM → Prop} : AW d 163 60 [l0, some (.int x), l2, l3] [v0] m Q ↔ AW d 163 61 [l0, some (.int x), l2, l3] [.int x, v0] m Q := A_iload_n hB_X11_wander dX11_wander_60 rfl
theorem dX11_wander_61 : decode cX11_wander 61 = .ok (.iload_n 2, 1) := by decide +kernel
theorem tX11_wander_61 {d : Nat} {l0 l1 l3 : Option Value} {v0 v1 : Value} {x : Int32} {m : jmM} {Q : Option Value → jmM → Prop} : AW d 163 61 [l0, l1, some (.int x), l3] [v0, v1] m Q ↔ AW d 163 62 [l0, l1, some (.int x), l3] [.int x, v0, v1] m Q := A_iload_n hB_X11_wander dX11_wander_61 rfl
theorem dX11_wander_62 : decode cX11_wander 62 = .ok (.invokevirtual 272, 3) := by decide +kernel
theorem tX11_wander_62 {d : Nat} {l0 l1 l2 l3 : Option Value} {y0 y1 : Value} {a : Nat} {m : jmM} {Q : Option Value → jmM → Prop} : AW d 163 62 [l0, l1, l2, l3] [y0, y1, .ref a] m Q ↔ (mS m a).1 = 5 ∧ CC d 69 [.ref a, y1, y0] m (jK d 163 65 [l0, l1, l2, l3] [] Q) := A_callV hB_X11_wander dX11_wander_62 hO_X11_wander fS_11_272 ⟨Nat.le_of_ble_eq_true rfl, Nat.le_of_ble_eq_true rfl⟩ rfl rfl rfl
theorem dX11_wander_65 : decode cX11_wander 65 = .ok (.ireturn, 1) := by decide +kernel
theorem tX11_wander_65 {d : Nat} {l0 l1 l2 l3 : Option Value} {x : Int32} {m : jmM} {Q : Option Value → jmM → Prop} : AW d 163 65 [l0, l1, l2, l3] [.int x] m Q ↔ Q (some (.int x)) m := A_ireturn hB_X11_wander dX11_wander_65 hR_X11_wander
theorem dX11_wander_66 : decode cX11_wander 66 = .ok (.aload_n 0, 1) := by decide +kernel
theorem tX11_wander_66 {d : Nat} {l1 l2 l3 : Option Value} {x : Nat} {m : jmM} {Q : Option Value → jmM → Prop} : AW d 163 66 [some (.ref x), l1, l2, l3] [] m Q ↔ AW d 163 67 [some (.ref x), l1, l2, l3] [.ref x] m Q := A_aload_n hB_X11_wander dX11_wander_66 rfl
theorem dX11_wander_67 : decode cX11_wander 67 = .ok (.getfield 56, 3) := by decide +kernel
theorem tX11_wander_67 {d : Nat} {l0 l1 l2 l3 : Option Value} {a : Nat} {m : jmM} {Q : Option Value → jmM → Prop} : AW d 163 67 [l0, l1, l2, l3] [.ref a] m Q ↔ (mS m a).1 = 11 ∧ AW d 163 70 [l0, l1, l2, l3] [va_rf (mR m a 8)] m Q := A_getfield (f := fun m a => va_rf (mR m a 8)) hB_X11_wander dX11_wander_67 hO_X11_wander fF_11_56 rfl
theorem dX11_wander_70 : decode cX11_wander 70 = .ok (.iload_n 1, 1) := by decide +kernel
theorem tX11_wander_70 {d : Nat} {l0 l2 l3 : Option Value} {v0 : Value} {x : Int32} {m : jmM} {Q : Option Value → jmM → Prop} : AW d 163 70 [l0, some (.int x), l2, l3] [v0] m Q ↔ AW d 163 71 [l0, some (.int x), l2, l3] [.int x, v0] m Q := A_iload_n hB_X11_wander dX11_wander_70 rfl
theorem dX11_wander_71 : decode cX11_wander 71 = .ok (.iload_n 2, 1) := by decide +kernel
theorem tX11_wander_71 {d : Nat} {l0 l1 l3 : Option Value} {v0 v1 : Value} {x : Int32} {m : jmM} {Q : Option Value → jmM → Prop} : AW d 163 71 [l0, l1, some (.int x), l3] [v0, v1] m Q ↔ AW d 163 72 [l0, l1, some (.int x), l3] [.int x, v0, v1] m Q := A_iload_n hB_X11_wander dX11_wander_71 rfl
theorem dX11_wander_72 : decode cX11_wander 72 = .ok (.invokevirtual 275, 3) := by decide +kernel
theorem tX11_wander_72 {d : Nat} {l0 l1 l2 l3 : Option Value} {y0 y1 : Value} {a : Nat} {m : jmM} {Q : Option Value → jmM → Prop} : AW d 163 72 [l0, l1, l2, l3] [y0, y1, .ref a] m Q ↔ (mS m a).1 = 5 ∧ CC d 70 [.ref a, y1, y0] m (jK d 163 75 [l0, l1, l2, l3] [] Q) := A_callV hB_X11_wander dX11_wander_72 hO_X11_wander fS_11_275 ⟨Nat.le_of_ble_eq_true rfl, Nat.le_of_ble_eq_true rfl⟩ rfl rfl rfl
theorem dX11_wander_75 : decode cX11_wander 75 = .ok (.ireturn, 1) := by decide +kernel
theorem tX11_wander_75 {d : Nat} {l0 l1 l2 l3 : Option Value} {x : Int32} {m : jmM} {Q : Option Value → jmM → Prop} : AW d 163 75 [l0, l1, l2, l3] [.int x] m Q ↔ Q (some (.int x)) m := A_ireturn hB_X11_wander dX11_wander_75 hR_X11_wander
theorem dX11_wander_76 : decode cX11_wander 76 = .ok (.iconst (-1), 1) := by decide +kernel
theorem tX11_wander_76 {d : Nat} {l0 l1 l2 l3 : Option Value} {m : jmM} {Q : Option Value → jmM → Prop} : AW d 163 76 [l0, l1, l2, l3] [] m Q ↔ AW d 163 77 [l0, l1, l2, l3] [.int (-1)] m Q := A_iconst hB_X11_wander dX11_wander_76 (by decide)
theorem dX11_wander_77 : decode cX11_wander 77 = .ok (.ireturn, 1) := by decide +kernel
theorem tX11_wander_77 {d : Nat} {l0 l1 l2 l3 : Option Value} {x : Int32} {m : jmM} {Q : Option Value → jmM → Prop} : AW d 163 77 [l0, l1, l2, l3] [.int x] m Q ↔ Q (some (.int x)) m := A_ireturn hB_X11_wander dX11_wander_77 hR_X11_wander
theorem hB_X11_tried : jB 164 = cX11_tried := rfl
theorem hO_X11_tried : jO 164 = 11 := rfl
theorem hR_X11_tried : jRt 164 = (some .int) := rfl
theorem nX11_tried (d : Nat) (x0 : Nat) (x1 : Int32) (x2 : Int32) (x3 : Int32) (x4 : Int32) (m : jmM) (Q : Option Value → jmM → Prop) : CC (d + 1) 164 [.ref x0, .int x1, .int x2, .int x3, .int x4] m Q ↔ AW d 164 0 [some (.ref x0), some (.int x1), some (.int x2), some (.int x3), some (.int x4), none] [] m Q := CC_body (Nat.le_of_ble_eq_true rfl)
theorem dX11_tried_0 : decode cX11_tried 0 = .ok (.aload_n 0, 1) := by decide +kernel
theorem tX11_tried_0 {d : Nat} {l1 l2 l3 l4 l5 : Option Value} {x : Nat} {m : jmM} {Q : Option Value → jmM → Prop} : AW d 164 0 [some (.ref x), l1, l2, l3, l4, l5] [] m Q ↔ AW d 164 1 [some (.ref x), l1, l2, l3, l4, l5] [.ref x] m Q := A_aload_n hB_X11_tried dX11_tried_0 rfl
theorem dX11_tried_1 : decode cX11_tried 1 = .ok (.getfield 32, 3) := by decide +kernel
theorem tX11_tried_1 {d : Nat} {l0 l1 l2 l3 l4 l5 : Option Value} {a : Nat} {m : jmM} {Q : Option Value → jmM → Prop} : AW d 164 1 [l0, l1, l2, l3, l4, l5] [.ref a] m Q ↔ (mS m a).1 = 11 ∧ AW d 164 4 [l0, l1, l2, l3, l4, l5] [va_rf (mR m a 3)] m Q := A_getfield (f := fun m a => va_rf (mR m a 3)) hB_X11_tried dX11_tried_1 hO_X11_tried fF_11_32 rfl
theorem dX11_tried_4 : decode cX11_tried 4 = .ok (.iload_n 1, 1) := by decide +kernel
theorem tX11_tried_4 {d : Nat} {l0 l2 l3 l4 l5 : Option Value} {v0 : Value} {x : Int32} {m : jmM} {Q : Option Value → jmM → Prop} : AW d 164 4 [l0, some (.int x), l2, l3, l4, l5] [v0] m Q ↔ AW d 164 5 [l0, some (.int x), l2, l3, l4, l5] [.int x, v0] m Q := A_iload_n hB_X11_tried dX11_tried_4 rfl
theorem dX11_tried_5 : decode cX11_tried 5 = .ok (.invokevirtual 136, 3) := by decide +kernel
theorem tX11_tried_5 {d : Nat} {l0 l1 l2 l3 l4 l5 : Option Value} {y0 : Value} {a : Nat} {m : jmM} {Q : Option Value → jmM → Prop} : AW d 164 5 [l0, l1, l2, l3, l4, l5] [y0, .ref a] m Q ↔ (mS m a).1 = 4 ∧ CC d 45 [.ref a, y0] m (jK d 164 8 [l0, l1, l2, l3, l4, l5] [] Q) := A_callV hB_X11_tried dX11_tried_5 hO_X11_tried fS_11_136 ⟨Nat.le_of_ble_eq_true rfl, Nat.le_of_ble_eq_true rfl⟩ rfl rfl rfl
theorem dX11_tried_8 : decode cX11_tried 8 = .ok (.astore 5, 2) := by decide +kernel
theorem tX11_tried_8 {d : Nat} {l0 l1 l2 l3 l4 l5 : Option Value} {x : Nat} {m : jmM} {Q : Option Value → jmM → Prop} : AW d 164 8 [l0, l1, l2, l3, l4, l5] [.ref x] m Q ↔ AW d 164 10 [l0, l1, l2, l3, jc1 l4, some (.ref x)] [] m Q := A_astore hB_X11_tried dX11_tried_8 (Nat.le_of_ble_eq_true rfl) rfl
theorem tX11_tried_8q {d : Nat} {l0 l1 l2 l3 l4 l5 : Option Value} {x : Option Nat} {m : jmM} {Q : Option Value → jmM → Prop} : AW d 164 8 [l0, l1, l2, l3, l4, l5] [va_rf x] m Q ↔ AW d 164 10 [l0, l1, l2, l3, jc1 l4, some (va_rf x)] [] m Q := A_astoreq hB_X11_tried dX11_tried_8 (Nat.le_of_ble_eq_true rfl) rfl
theorem dX11_tried_10 : decode cX11_tried 10 = .ok (.aload 5, 2) := by decide +kernel
theorem tX11_tried_10 {d : Nat} {l0 l1 l2 l3 l4 : Option Value} {x : Nat} {m : jmM} {Q : Option Value → jmM → Prop} : AW d 164 10 [l0, l1, l2, l3, l4, some (.ref x)] [] m Q ↔ AW d 164 12 [l0, l1, l2, l3, l4, some (.ref x)] [.ref x] m Q := A_aload hB_X11_tried dX11_tried_10 rfl
theorem tX11_tried_10q {d : Nat} {l0 l1 l2 l3 l4 : Option Value} {x : Option Nat} {m : jmM} {Q : Option Value → jmM → Prop} : AW d 164 10 [l0, l1, l2, l3, l4, some (va_rf x)] [] m Q ↔ AW d 164 12 [l0, l1, l2, l3, l4, some (va_rf x)] [va_rf x] m Q := A_aloadq hB_X11_tried dX11_tried_10 rfl
theorem dX11_tried_12 : decode cX11_tried 12 = .ok (.ifnull 24, 3) := by decide +kernel
theorem tX11_tried_12 {d : Nat} {l0 l1 l2 l3 l4 l5 : Option Value} {x : Option Nat} {m : jmM} {Q : Option Value → jmM → Prop} : AW d 164 12 [l0, l1, l2, l3, l4, l5] [va_rf x] m Q ↔ if x = none then AW d 164 36 [l0, l1, l2, l3, l4, l5] [] m Q else AW d 164 15 [l0, l1, l2, l3, l4, l5] [] m Q := A_ifnull hB_X11_tried dX11_tried_12 (by decide)
theorem tX11_tried_12r {d : Nat} {l0 l1 l2 l3 l4 l5 : Option Value} {x : Nat} {m : jmM} {Q : Option Value → jmM → Prop} : AW d 164 12 [l0, l1, l2, l3, l4, l5] [.ref x] m Q ↔ AW d 164 15 [l0, l1, l2, l3, l4, l5] [] m Q := A_ifnull_r hB_X11_tried dX11_tried_12 (t := 36) (by decide)
theorem dX11_tried_15 : decode cX11_tried 15 = .ok (.aload_n 0, 1) := by decide +kernel
theorem tX11_tried_15 {d : Nat} {l1 l2 l3 l4 l5 : Option Value} {x : Nat} {m : jmM} {Q : Option Value → jmM → Prop} : AW d 164 15 [some (.ref x), l1, l2, l3, l4, l5] [] m Q ↔ AW d 164 16 [some (.ref x), l1, l2, l3, l4, l5] [.ref x] m Q := A_aload_n hB_X11_tried dX11_tried_15 rfl
theorem dX11_tried_16 : decode cX11_tried 16 = .ok (.getfield 56, 3) := by decide +kernel
theorem tX11_tried_16 {d : Nat} {l0 l1 l2 l3 l4 l5 : Option Value} {a : Nat} {m : jmM} {Q : Option Value → jmM → Prop} : AW d 164 16 [l0, l1, l2, l3, l4, l5] [.ref a] m Q ↔ (mS m a).1 = 11 ∧ AW d 164 19 [l0, l1, l2, l3, l4, l5] [va_rf (mR m a 8)] m Q := A_getfield (f := fun m a => va_rf (mR m a 8)) hB_X11_tried dX11_tried_16 hO_X11_tried fF_11_56 rfl
theorem dX11_tried_19 : decode cX11_tried 19 = .ok (.invokevirtual 159, 3) := by decide +kernel
theorem tX11_tried_19 {d : Nat} {l0 l1 l2 l3 l4 l5 : Option Value} {a : Nat} {m : jmM} {Q : Option Value → jmM → Prop} : AW d 164 19 [l0, l1, l2, l3, l4, l5] [.ref a] m Q ↔ (mS m a).1 = 5 ∧ CC d 73 [.ref a] m (jK d 164 22 [l0, l1, l2, l3, l4, l5] [] Q) := A_callV hB_X11_tried dX11_tried_19 hO_X11_tried fS_11_159 ⟨Nat.le_of_ble_eq_true rfl, Nat.le_of_ble_eq_true rfl⟩ rfl rfl rfl
theorem dX11_tried_22 : decode cX11_tried 22 = .ok (.ifCond .eq 14, 3) := by decide +kernel
theorem tX11_tried_22 {d : Nat} {l0 l1 l2 l3 l4 l5 : Option Value} {x : Int32} {m : jmM} {Q : Option Value → jmM → Prop} : AW d 164 22 [l0, l1, l2, l3, l4, l5] [.int x] m Q ↔ if x = 0 then AW d 164 36 [l0, l1, l2, l3, l4, l5] [] m Q else AW d 164 25 [l0, l1, l2, l3, l4, l5] [] m Q := A_if_eq hB_X11_tried dX11_tried_22 (by decide)
theorem dX11_tried_25 : decode cX11_tried 25 = .ok (.iload_n 2, 1) := by decide +kernel
theorem tX11_tried_25 {d : Nat} {l0 l1 l3 l4 l5 : Option Value} {x : Int32} {m : jmM} {Q : Option Value → jmM → Prop} : AW d 164 25 [l0, l1, some (.int x), l3, l4, l5] [] m Q ↔ AW d 164 26 [l0, l1, some (.int x), l3, l4, l5] [.int x] m Q := A_iload_n hB_X11_tried dX11_tried_25 rfl
theorem dX11_tried_26 : decode cX11_tried 26 = .ok (.iconst 1, 1) := by decide +kernel
theorem tX11_tried_26 {d : Nat} {l0 l1 l2 l3 l4 l5 : Option Value} {v0 : Value} {m : jmM} {Q : Option Value → jmM → Prop} : AW d 164 26 [l0, l1, l2, l3, l4, l5] [v0] m Q ↔ AW d 164 27 [l0, l1, l2, l3, l4, l5] [.int 1, v0] m Q := A_iconst hB_X11_tried dX11_tried_26 (by decide)
theorem dX11_tried_27 : decode cX11_tried 27 = .ok (.sipush 300, 3) := by decide +kernel
theorem tX11_tried_27 {d : Nat} {l0 l1 l2 l3 l4 l5 : Option Value} {v0 v1 : Value} {m : jmM} {Q : Option Value → jmM → Prop} : AW d 164 27 [l0, l1, l2, l3, l4, l5] [v0, v1] m Q ↔ AW d 164 30 [l0, l1, l2, l3, l4, l5] [.int 300, v0, v1] m Q := A_sipush hB_X11_tried dX11_tried_27 rfl
theorem dX11_tried_30 : decode cX11_tried 30 = .ok (.invokestatic 128, 3) := by decide +kernel
theorem tX11_tried_30 {d : Nat} {l0 l1 l2 l3 l4 l5 : Option Value} {y0 y1 y2 : Value} {m : jmM} {Q : Option Value → jmM → Prop} : AW d 164 30 [l0, l1, l2, l3, l4, l5] [y0, y1, y2] m Q ↔ CC d 183 [y2, y1, y0] m (jK d 164 33 [l0, l1, l2, l3, l4, l5] [] Q) := A_callS0 hB_X11_tried dX11_tried_30 hO_X11_tried fS_11_128 ⟨Nat.le_of_ble_eq_true rfl, Nat.le_of_ble_eq_true rfl⟩ rfl rfl
theorem dX11_tried_33 : decode cX11_tried 33 = .ok (.ifCond .ne 5, 3) := by decide +kernel
theorem tX11_tried_33 {d : Nat} {l0 l1 l2 l3 l4 l5 : Option Value} {x : Int32} {m : jmM} {Q : Option Value → jmM → Prop} : AW d 164 33 [l0, l1, l2, l3, l4, l5] [.int x] m Q ↔ if x = 0 then AW d 164 36 [l0, l1, l2, l3, l4, l5] [] m Q else AW d 164 38 [l0, l1, l2, l3, l4, l5] [] m Q := A_if_ne hB_X11_tried dX11_tried_33 (by decide)
theorem dX11_tried_36 : decode cX11_tried 36 = .ok (.iconst (-1), 1) := by decide +kernel
theorem tX11_tried_36 {d : Nat} {l0 l1 l2 l3 l4 l5 : Option Value} {m : jmM} {Q : Option Value → jmM → Prop} : AW d 164 36 [l0, l1, l2, l3, l4, l5] [] m Q ↔ AW d 164 37 [l0, l1, l2, l3, l4, l5] [.int (-1)] m Q := A_iconst hB_X11_tried dX11_tried_36 (by decide)
theorem dX11_tried_37 : decode cX11_tried 37 = .ok (.ireturn, 1) := by decide +kernel
theorem tX11_tried_37 {d : Nat} {l0 l1 l2 l3 l4 l5 : Option Value} {x : Int32} {m : jmM} {Q : Option Value → jmM → Prop} : AW d 164 37 [l0, l1, l2, l3, l4, l5] [.int x] m Q ↔ Q (some (.int x)) m := A_ireturn hB_X11_tried dX11_tried_37 hR_X11_tried
theorem dX11_tried_38 : decode cX11_tried 38 = .ok (.iload_n 3, 1) := by decide +kernel
theorem tX11_tried_38 {d : Nat} {l0 l1 l2 l4 l5 : Option Value} {x : Int32} {m : jmM} {Q : Option Value → jmM → Prop} : AW d 164 38 [l0, l1, l2, some (.int x), l4, l5] [] m Q ↔ AW d 164 39 [l0, l1, l2, some (.int x), l4, l5] [.int x] m Q := A_iload_n hB_X11_tried dX11_tried_38 rfl
theorem dX11_tried_39 : decode cX11_tried 39 = .ok (.sipush (-9999), 3) := by decide +kernel
theorem tX11_tried_39 {d : Nat} {l0 l1 l2 l3 l4 l5 : Option Value} {v0 : Value} {m : jmM} {Q : Option Value → jmM → Prop} : AW d 164 39 [l0, l1, l2, l3, l4, l5] [v0] m Q ↔ AW d 164 42 [l0, l1, l2, l3, l4, l5] [.int (-9999), v0] m Q := A_sipush hB_X11_tried dX11_tried_39 rfl
theorem dX11_tried_42 : decode cX11_tried 42 = .ok (.sipush 9999, 3) := by decide +kernel
theorem tX11_tried_42 {d : Nat} {l0 l1 l2 l3 l4 l5 : Option Value} {v0 v1 : Value} {m : jmM} {Q : Option Value → jmM → Prop} : AW d 164 42 [l0, l1, l2, l3, l4, l5] [v0, v1] m Q ↔ AW d 164 45 [l0, l1, l2, l3, l4, l5] [.int 9999, v0, v1] m Q := A_sipush hB_X11_tried dX11_tried_42 rfl
theorem dX11_tried_45 : decode cX11_tried 45 = .ok (.invokestatic 128, 3) := by decide +kernel
theorem tX11_tried_45 {d : Nat} {l0 l1 l2 l3 l4 l5 : Option Value} {y0 y1 y2 : Value} {m : jmM} {Q : Option Value → jmM → Prop} : AW d 164 45 [l0, l1, l2, l3, l4, l5] [y0, y1, y2] m Q ↔ CC d 183 [y2, y1, y0] m (jK d 164 48 [l0, l1, l2, l3, l4, l5] [] Q) := A_callS0 hB_X11_tried dX11_tried_45 hO_X11_tried fS_11_128 ⟨Nat.le_of_ble_eq_true rfl, Nat.le_of_ble_eq_true rfl⟩ rfl rfl
theorem dX11_tried_48 : decode cX11_tried 48 = .ok (.ifCond .eq 13, 3) := by decide +kernel
theorem tX11_tried_48 {d : Nat} {l0 l1 l2 l3 l4 l5 : Option Value} {x : Int32} {m : jmM} {Q : Option Value → jmM → Prop} : AW d 164 48 [l0, l1, l2, l3, l4, l5] [.int x] m Q ↔ if x = 0 then AW d 164 61 [l0, l1, l2, l3, l4, l5] [] m Q else AW d 164 51 [l0, l1, l2, l3, l4, l5] [] m Q := A_if_eq hB_X11_tried dX11_tried_48 (by decide)
theorem dX11_tried_51 : decode cX11_tried 51 = .ok (.iload 4, 2) := by decide +kernel
theorem tX11_tried_51 {d : Nat} {l0 l1 l2 l3 l5 : Option Value} {x : Int32} {m : jmM} {Q : Option Value → jmM → Prop} : AW d 164 51 [l0, l1, l2, l3, some (.int x), l5] [] m Q ↔ AW d 164 53 [l0, l1, l2, l3, some (.int x), l5] [.int x] m Q := A_iload hB_X11_tried dX11_tried_51 rfl
theorem dX11_tried_53 : decode cX11_tried 53 = .ok (.iconst 0, 1) := by decide +kernel
theorem tX11_tried_53 {d : Nat} {l0 l1 l2 l3 l4 l5 : Option Value} {v0 : Value} {m : jmM} {Q : Option Value → jmM → Prop} : AW d 164 53 [l0, l1, l2, l3, l4, l5] [v0] m Q ↔ AW d 164 54 [l0, l1, l2, l3, l4, l5] [.int 0, v0] m Q := A_iconst hB_X11_tried dX11_tried_53 (by decide)
theorem dX11_tried_54 : decode cX11_tried 54 = .ok (.iconst 4, 1) := by decide +kernel
theorem tX11_tried_54 {d : Nat} {l0 l1 l2 l3 l4 l5 : Option Value} {v0 v1 : Value} {m : jmM} {Q : Option Value → jmM → Prop} : AW d 164 54 [l0, l1, l2, l3, l4, l5] [v0, v1] m Q ↔ AW d 164 55 [l0, l1, l2, l3, l4, l5] [.int 4, v0, v1] m Q := A_iconst hB_X11_tried dX11_tried_54 (by decide)
theorem dX11_tried_55 : decode cX11_tried 55 = .ok (.invokestatic 128, 3) := by decide +kernel
theorem tX11_tried_55 {d : Nat} {l0 l1 l2 l3 l4 l5 : Option Value} {y0 y1 y2 : Value} {m : jmM} {Q : Option Value → jmM → Prop} : AW d 164 55 [l0, l1, l2, l3, l4, l5] [y0, y1, y2] m Q ↔ CC d 183 [y2, y1, y0] m (jK d 164 58 [l0, l1, l2, l3, l4, l5] [] Q) := A_callS0 hB_X11_tried dX11_tried_55 hO_X11_tried fS_11_128 ⟨Nat.le_of_ble_eq_true rfl, Nat.le_of_ble_eq_true rfl⟩ rfl rfl
theorem dX11_tried_58 : decode cX11_tried 58 = .ok (.ifCond .ne 5, 3) := by decide +kernel
theorem tX11_tried_58 {d : Nat} {l0 l1 l2 l3 l4 l5 : Option Value} {x : Int32} {m : jmM} {Q : Option Value → jmM → Prop} : AW d 164 58 [l0, l1, l2, l3, l4, l5] [.int x] m Q ↔ if x = 0 then AW d 164 61 [l0, l1, l2, l3, l4, l5] [] m Q else AW d 164 63 [l0, l1, l2, l3, l4, l5] [] m Q := A_if_ne hB_X11_tried dX11_tried_58 (by decide)
theorem dX11_tried_61 : decode cX11_tried 61 = .ok (.iconst (-1), 1) := by decide +kernel
theorem tX11_tried_61 {d : Nat} {l0 l1 l2 l3 l4 l5 : Option Value} {m : jmM} {Q : Option Value → jmM → Prop} : AW d 164 61 [l0, l1, l2, l3, l4, l5] [] m Q ↔ AW d 164 62 [l0, l1, l2, l3, l4, l5] [.int (-1)] m Q := A_iconst hB_X11_tried dX11_tried_61 (by decide)
theorem dX11_tried_62 : decode cX11_tried 62 = .ok (.ireturn, 1) := by decide +kernel
theorem tX11_tried_62 {d : Nat} {l0 l1 l2 l3 l4 l5 : Option Value} {x : Int32} {m : jmM} {Q : Option Value → jmM → Prop} : AW d 164 62 [l0, l1, l2, l3, l4, l5] [.int x] m Q ↔ Q (some (.int x)) m := A_ireturn hB_X11_tried dX11_tried_62 hR_X11_tried
theorem dX11_tried_63 : decode cX11_tried 63 = .ok (.aload_n 0, 1) := by decide +kernel
theorem tX11_tried_63 {d : Nat} {l1 l2 l3 l4 l5 : Option Value} {x : Nat} {m : jmM} {Q : Option Value → jmM → Prop} : AW d 164 63 [some (.ref x), l1, l2, l3, l4, l5] [] m Q ↔ AW d 164 64 [some (.ref x), l1, l2, l3, l4, l5] [.ref x] m Q := A_aload_n hB_X11_tried dX11_tried_63 rfl
theorem dX11_tried_64 : decode cX11_tried 64 = .ok (.aload 5, 2) := by decide +kernel
theorem tX11_tried_64 {d : Nat} {l0 l1 l2 l3 l4 : Option Value} {v0 : Value} {x : Nat} {m : jmM} {Q : Option Value → jmM → Prop} : AW d 164 64 [l0, l1, l2, l3, l4, some (.ref x)] [v0] m Q ↔ AW d 164 66 [l0, l1, l2, l3, l4, some (.ref x)] [.ref x, v0] m Q := A_aload hB_X11_tried dX11_tried_64 rfl
theorem tX11_tried_64q {d : Nat} {l0 l1 l2 l3 l4 : Option Value} {v0 : Value} {x : Option Nat} {m : jmM} {Q : Option Value → jmM → Prop} : AW d 164 64 [l0, l1, l2, l3, l4, some (va_rf x)] [v0] m Q ↔ AW d 164 66 [l0, l1, l2, l3, l4, some (va_rf x)] [va_rf x, v0] m Q := A_aloadq hB_X11_tried dX11_tried_64 rfl
theorem dX11_tried_66 : decode cX11_tried 66 = .ok (.iload_n 2, 1) := by decide +kernel
theorem tX11_tried_66 {d : Nat} {l0 l1 l3 l4 l5 : Option Value} {v0 v1 : Value} {x : Int32} {m : jmM} {Q : Option Value → jmM → Prop} : AW d 164 66 [l0, l1, some (.int x), l3, l4, l5] [v0, v1] m Q ↔ AW d 164 67 [l0, l1, some (.int x), l3, l4, l5] [.int x, v0, v1] m Q := A_iload_n hB_X11_tried dX11_tried_66 rfl
theorem dX11_tried_67 : decode cX11_tried 67 = .ok (.iload_n 3, 1) := by decide +kernel
theorem tX11_tried_67 {d : Nat} {l0 l1 l2 l4 l5 : Option Value} {v0 v1 v2 : Value} {x : Int32} {m : jmM} {Q : Option Value → jmM → Prop} : AW d 164 67 [l0, l1, l2, some (.int x), l4, l5] [v0, v1, v2] m Q ↔ AW d 164 68 [l0, l1, l2, some (.int x), l4, l5] [.int x, v0, v1, v2] m Q := A_iload_n hB_X11_tried dX11_tried_67 rfl
theorem dX11_tried_68 : decode cX11_tried 68 = .ok (.invokevirtual 278, 3) := by decide +kernel
theorem tX11_tried_68 {d : Nat} {l0 l1 l2 l3 l4 l5 : Option Value} {y0 y1 y2 : Value} {a : Nat} {m : jmM} {Q : Option Value → jmM → Prop} : AW d 164 68 [l0, l1, l2, l3, l4, l5] [y0, y1, y2, .ref a] m Q ↔ (mS m a).1 = 11 ∧ CC d 179 [.ref a, y2, y1, y0] m (jK d 164 71 [l0, l1, l2, l3, l4, l5] [] Q) := A_callV hB_X11_tried dX11_tried_68 hO_X11_tried fS_11_278 ⟨Nat.le_of_ble_eq_true rfl, Nat.le_of_ble_eq_true rfl⟩ rfl rfl rfl
theorem dX11_tried_71 : decode cX11_tried 71 = .ok (.iload 4, 2) := by decide +kernel
theorem tX11_tried_71 {d : Nat} {l0 l1 l2 l3 l5 : Option Value} {x : Int32} {m : jmM} {Q : Option Value → jmM → Prop} : AW d 164 71 [l0, l1, l2, l3, some (.int x), l5] [] m Q ↔ AW d 164 73 [l0, l1, l2, l3, some (.int x), l5] [.int x] m Q := A_iload hB_X11_tried dX11_tried_71 rfl
theorem dX11_tried_73 : decode cX11_tried 73 = .ok (.tableswitch 111 0 3 #[31, 55, 79, 95], 31) := by decide +kernel
theorem tX11_tried_73 {d : Nat} {l0 l1 l2 l3 l4 l5 : Option Value} {x : Int32} {m : jmM} {Q : Option Value → jmM → Prop} : AW d 164 73 [l0, l1, l2, l3, l4, l5] [.int x] m Q ↔ if x = 0 then AW d 164 104 [l0, l1, l2, l3, l4, l5] [] m Q else if x = 1 then AW d 164 128 [l0, l1, l2, l3, l4, l5] [] m Q else if x = 2 then AW d 164 152 [l0, l1, l2, l3, l4, l5] [] m Q else if x = 3 then AW d 164 168 [l0, l1, l2, l3, l4, l5] [] m Q else AW d 164 184 [l0, l1, l2, l3, l4, l5] [] m Q := by
  by_cases h0 : x = 0
  · subst h0; rw [if_pos rfl]; exact A_switch hB_X11_tried dX11_tried_73 (by decide) (by decide)
  rw [if_neg h0]
  have e0 := i32_ne (n := 0) (by decide) h0
  by_cases h1 : x = 1
  · subst h1; rw [if_pos rfl]; exact A_switch hB_X11_tried dX11_tried_73 (by decide) (by decide)
  rw [if_neg h1]
  have e1 := i32_ne (n := 1) (by decide) h1
  by_cases h2 : x = 2
  · subst h2; rw [if_pos rfl]; exact A_switch hB_X11_tried dX11_tried_73 (by decide) (by decide)
  rw [if_neg h2]
  have e2 := i32_ne (n := 2) (by decide) h2
  by_cases h3 : x = 3
  · subst h3; rw [if_pos rfl]; exact A_switch hB_X11_tried dX11_tried_73 (by decide) (by decide)
  rw [if_neg h3]
  have e3 := i32_ne (n := 3) (by decide) h3
  exact A_switch hB_X11_tried dX11_tried_73 (t := 184) (by decide) (by unfold jsw; rw [if_pos (by omega)]; rfl)
theorem dX11_tried_104 : decode cX11_tried 104 = .ok (.aload_n 0, 1) := by decide +kernel
theorem tX11_tried_104 {d : Nat} {l1 l2 l3 l4 l5 : Option Value} {x : Nat} {m : jmM} {Q : Option Value → jmM → Prop} : AW d 164 104 [some (.ref x), l1, l2, l3, l4, l5] [] m Q ↔ AW d 164 105 [some (.ref x), l1, l2, l3, l4, l5] [.ref x] m Q := A_aload_n hB_X11_tried dX11_tried_104 rfl
theorem dX11_tried_105 : decode cX11_tried 105 = .ok (.getfield 60, 3) := by decide +kernel
theorem tX11_tried_105 {d : Nat} {l0 l1 l2 l3 l4 l5 : Option Value} {a : Nat} {m : jmM} {Q : Option Value → jmM → Prop} : AW d 164 105 [l0, l1, l2, l3, l4, l5] [.ref a] m Q ↔ (mS m a).1 = 11 ∧ AW d 164 108 [l0, l1, l2, l3, l4, l5] [va_rf (mR m a 9)] m Q := A_getfield (f := fun m a => va_rf (mR m a 9)) hB_X11_tried dX11_tried_105 hO_X11_tried fF_11_60 rfl
theorem dX11_tried_108 : decode cX11_tried 108 = .ok (.aload_n 0, 1) := by decide +kernel
theorem tX11_tried_108 {d : Nat} {l1 l2 l3 l4 l5 : Option Value} {v0 : Value} {x : Nat} {m : jmM} {Q : Option Value → jmM → Prop} : AW d 164 108 [some (.ref x), l1, l2, l3, l4, l5] [v0] m Q ↔ AW d 164 109 [some (.ref x), l1, l2, l3, l4, l5] [.ref x, v0] m Q := A_aload_n hB_X11_tried dX11_tried_108 rfl
theorem dX11_tried_109 : decode cX11_tried 109 = .ok (.getfield 56, 3) := by decide +kernel
theorem tX11_tried_109 {d : Nat} {l0 l1 l2 l3 l4 l5 : Option Value} {v1 : Value} {a : Nat} {m : jmM} {Q : Option Value → jmM → Prop} : AW d 164 109 [l0, l1, l2, l3, l4, l5] [.ref a, v1] m Q ↔ (mS m a).1 = 11 ∧ AW d 164 112 [l0, l1, l2, l3, l4, l5] [va_rf (mR m a 8), v1] m Q := A_getfield (f := fun m a => va_rf (mR m a 8)) hB_X11_tried dX11_tried_109 hO_X11_tried fF_11_56 rfl
theorem dX11_tried_112 : decode cX11_tried 112 = .ok (.invokevirtual 170, 3) := by decide +kernel
theorem tX11_tried_112 {d : Nat} {l0 l1 l2 l3 l4 l5 : Option Value} {v1 : Value} {a : Nat} {m : jmM} {Q : Option Value → jmM → Prop} : AW d 164 112 [l0, l1, l2, l3, l4, l5] [.ref a, v1] m Q ↔ (mS m a).1 = 5 ∧ CC d 74 [.ref a] m (jK d 164 115 [l0, l1, l2, l3, l4, l5] [v1] Q) := A_callV hB_X11_tried dX11_tried_112 hO_X11_tried fS_11_170 ⟨Nat.le_of_ble_eq_true rfl, Nat.le_of_ble_eq_true rfl⟩ rfl rfl rfl
theorem dX11_tried_115 : decode cX11_tried 115 = .ok (.aload_n 0, 1) := by decide +kernel
theorem tX11_tried_115 {d : Nat} {l1 l2 l3 l4 l5 : Option Value} {v0 v1 : Value} {x : Nat} {m : jmM} {Q : Option Value → jmM → Prop} : AW d 164 115 [some (.ref x), l1, l2, l3, l4, l5] [v0, v1] m Q ↔ AW d 164 116 [some (.ref x), l1, l2, l3, l4, l5] [.ref x, v0, v1] m Q := A_aload_n hB_X11_tried dX11_tried_115 rfl
theorem dX11_tried_116 : decode cX11_tried 116 = .ok (.getfield 60, 3) := by decide +kernel
theorem tX11_tried_116 {d : Nat} {l0 l1 l2 l3 l4 l5 : Option Value} {v1 v2 : Value} {a : Nat} {m : jmM} {Q : Option Value → jmM → Prop} : AW d 164 116 [l0, l1, l2, l3, l4, l5] [.ref a, v1, v2] m Q ↔ (mS m a).1 = 11 ∧ AW d 164 119 [l0, l1, l2, l3, l4, l5] [va_rf (mR m a 9), v1, v2] m Q := A_getfield (f := fun m a => va_rf (mR m a 9)) hB_X11_tried dX11_tried_116 hO_X11_tried fF_11_60 rfl
theorem dX11_tried_119 : decode cX11_tried 119 = .ok (.invokevirtual 170, 3) := by decide +kernel
theorem tX11_tried_119 {d : Nat} {l0 l1 l2 l3 l4 l5 : Option Value} {v1 v2 : Value} {a : Nat} {m : jmM} {Q : Option Value → jmM → Prop} : AW d 164 119 [l0, l1, l2, l3, l4, l5] [.ref a, v1, v2] m Q ↔ (mS m a).1 = 5 ∧ CC d 74 [.ref a] m (jK d 164 122 [l0, l1, l2, l3, l4, l5] [v1, v2] Q) := A_callV hB_X11_tried dX11_tried_119 hO_X11_tried fS_11_170 ⟨Nat.le_of_ble_eq_true rfl, Nat.le_of_ble_eq_true rfl⟩ rfl rfl rfl
theorem dX11_tried_122 : decode cX11_tried 122 = .ok (.iconst 1, 1) := by decide +kernel
theorem tX11_tried_122 {d : Nat} {l0 l1 l2 l3 l4 l5 : Option Value} {v0 v1 v2 : Value} {m : jmM} {Q : Option Value → jmM → Prop} : AW d 164 122 [l0, l1, l2, l3, l4, l5] [v0, v1, v2] m Q ↔ AW d 164 123 [l0, l1, l2, l3, l4, l5] [.int 1, v0, v1, v2] m Q := A_iconst hB_X11_tried dX11_tried_122 (by decide)
theorem dX11_tried_123 : decode cX11_tried 123 = .ok (.isub, 1) := by decide +kernel
theorem tX11_tried_123 {d : Nat} {l0 l1 l2 l3 l4 l5 : Option Value} {v2 v3 : Value} {x y : Int32} {m : jmM} {Q : Option Value → jmM → Prop} : AW d 164 123 [l0, l1, l2, l3, l4, l5] [.int y, .int x, v2, v3] m Q ↔ AW d 164 124 [l0, l1, l2, l3, l4, l5] [.int (x - y), v2, v3] m Q := A_isub hB_X11_tried dX11_tried_123
theorem dX11_tried_124 : decode cX11_tried 124 = .ok (.invokevirtual 272, 3) := by decide +kernel
theorem tX11_tried_124 {d : Nat} {l0 l1 l2 l3 l4 l5 : Option Value} {y0 y1 : Value} {a : Nat} {m : jmM} {Q : Option Value → jmM → Prop} : AW d 164 124 [l0, l1, l2, l3, l4, l5] [y0, y1, .ref a] m Q ↔ (mS m a).1 = 5 ∧ CC d 69 [.ref a, y1, y0] m (jK d 164 127 [l0, l1, l2, l3, l4, l5] [] Q) := A_callV hB_X11_tried dX11_tried_124 hO_X11_tried fS_11_272 ⟨Nat.le_of_ble_eq_true rfl, Nat.le_of_ble_eq_true rfl⟩ rfl rfl rfl
theorem dX11_tried_127 : decode cX11_tried 127 = .ok (.ireturn, 1) := by decide +kernel
theorem tX11_tried_127 {d : Nat} {l0 l1 l2 l3 l4 l5 : Option Value} {x : Int32} {m : jmM} {Q : Option Value → jmM → Prop} : AW d 164 127 [l0, l1, l2, l3, l4, l5] [.int x] m Q ↔ Q (some (.int x)) m := A_ireturn hB_X11_tried dX11_tried_127 hR_X11_tried
theorem dX11_tried_128 : decode cX11_tried 128 = .ok (.aload_n 0, 1) := by decide +kernel
theorem tX11_tried_128 {d : Nat} {l1 l2 l3 l4 l5 : Option Value} {x : Nat} {m : jmM} {Q : Option Value → jmM → Prop} : AW d 164 128 [some (.ref x), l1, l2, l3, l4, l5] [] m Q ↔ AW d 164 129 [some (.ref x), l1, l2, l3, l4, l5] [.ref x] m Q := A_aload_n hB_X11_tried dX11_tried_128 rfl
theorem dX11_tried_129 : decode cX11_tried 129 = .ok (.getfield 60, 3) := by decide +kernel
theorem tX11_tried_129 {d : Nat} {l0 l1 l2 l3 l4 l5 : Option Value} {a : Nat} {m : jmM} {Q : Option Value → jmM → Prop} : AW d 164 129 [l0, l1, l2, l3, l4, l5] [.ref a] m Q ↔ (mS m a).1 = 11 ∧ AW d 164 132 [l0, l1, l2, l3, l4, l5] [va_rf (mR m a 9)] m Q := A_getfield (f := fun m a => va_rf (mR m a 9)) hB_X11_tried dX11_tried_129 hO_X11_tried fF_11_60 rfl
theorem dX11_tried_132 : decode cX11_tried 132 = .ok (.aload_n 0, 1) := by decide +kernel
theorem tX11_tried_132 {d : Nat} {l1 l2 l3 l4 l5 : Option Value} {v0 : Value} {x : Nat} {m : jmM} {Q : Option Value → jmM → Prop} : AW d 164 132 [some (.ref x), l1, l2, l3, l4, l5] [v0] m Q ↔ AW d 164 133 [some (.ref x), l1, l2, l3, l4, l5] [.ref x, v0] m Q := A_aload_n hB_X11_tried dX11_tried_132 rfl
theorem dX11_tried_133 : decode cX11_tried 133 = .ok (.getfield 56, 3) := by decide +kernel
theorem tX11_tried_133 {d : Nat} {l0 l1 l2 l3 l4 l5 : Option Value} {v1 : Value} {a : Nat} {m : jmM} {Q : Option Value → jmM → Prop} : AW d 164 133 [l0, l1, l2, l3, l4, l5] [.ref a, v1] m Q ↔ (mS m a).1 = 11 ∧ AW d 164 136 [l0, l1, l2, l3, l4, l5] [va_rf (mR m a 8), v1] m Q := A_getfield (f := fun m a => va_rf (mR m a 8)) hB_X11_tried dX11_tried_133 hO_X11_tried fF_11_56 rfl
theorem dX11_tried_136 : decode cX11_tried 136 = .ok (.invokevirtual 170, 3) := by decide +kernel
theorem tX11_tried_136 {d : Nat} {l0 l1 l2 l3 l4 l5 : Option Value} {v1 : Value} {a : Nat} {m : jmM} {Q : Option Value → jmM → Prop} : AW d 164 136 [l0, l1, l2, l3, l4, l5] [.ref a, v1] m Q ↔ (mS m a).1 = 5 ∧ CC d 74 [.ref a] m (jK d 164 139 [l0, l1, l2, l3, l4, l5] [v1] Q) := A_callV hB_X11_tried dX11_tried_136 hO_X11_tried fS_11_170 ⟨Nat.le_of_ble_eq_true rfl, Nat.le_of_ble_eq_true rfl⟩ rfl rfl rfl
theorem dX11_tried_139 : decode cX11_tried 139 = .ok (.aload_n 0, 1) := by decide +kernel
theorem tX11_tried_139 {d : Nat} {l1 l2 l3 l4 l5 : Option Value} {v0 v1 : Value} {x : Nat} {m : jmM} {Q : Option Value → jmM → Prop} : AW d 164 139 [some (.ref x), l1, l2, l3, l4, l5] [v0, v1] m Q ↔ AW d 164 140 [some (.ref x), l1, l2, l3, l4, l5] [.ref x, v0, v1] m Q := A_aload_n hB_X11_tried dX11_tried_139 rfl
theorem dX11_tried_140 : decode cX11_tried 140 = .ok (.getfield 60, 3) := by decide +kernel
theorem tX11_tried_140 {d : Nat} {l0 l1 l2 l3 l4 l5 : Option Value} {v1 v2 : Value} {a : Nat} {m : jmM} {Q : Option Value → jmM → Prop} : AW d 164 140 [l0, l1, l2, l3, l4, l5] [.ref a, v1, v2] m Q ↔ (mS m a).1 = 11 ∧ AW d 164 143 [l0, l1, l2, l3, l4, l5] [va_rf (mR m a 9), v1, v2] m Q := A_getfield (f := fun m a => va_rf (mR m a 9)) hB_X11_tried dX11_tried_140 hO_X11_tried fF_11_60 rfl
theorem dX11_tried_143 : decode cX11_tried 143 = .ok (.invokevirtual 170, 3) := by decide +kernel
theorem tX11_tried_143 {d : Nat} {l0 l1 l2 l3 l4 l5 : Option Value} {v1 v2 : Value} {a : Nat} {m : jmM} {Q : Option Value → jmM → Prop} : AW d 164 143 [l0, l1, l2, l3, l4, l5] [.ref a, v1, v2] m Q ↔ (mS m a).1 = 5 ∧ CC d 74 [.ref a] m (jK d 164 146 [l0, l1, l2, l3, l4, l5] [v1, v2] Q) := A_callV hB_X11_tried dX11_tried_143 hO_X11_tried fS_11_170 ⟨Nat.le_of_ble_eq_true rfl, Nat.le_of_ble_eq_true rfl⟩ rfl rfl rfl
theorem dX11_tried_146 : decode cX11_tried 146 = .ok (.iconst 1, 1) := by decide +kernel
theorem tX11_tried_146 {d : Nat} {l0 l1 l2 l3 l4 l5 : Option Value} {v0 v1 v2 : Value} {m : jmM} {Q : Option Value → jmM → Prop} : AW d 164 146 [l0, l1, l2, l3, l4, l5] [v0, v1, v2] m Q ↔ AW d 164 147 [l0, l1, l2, l3, l4, l5] [.int 1, v0, v1, v2] m Q := A_iconst hB_X11_tried dX11_tried_146 (by decide)
theorem dX11_tried_147 : decode cX11_tried 147 = .ok (.isub, 1) := by decide +kernel
theorem tX11_tried_147 {d : Nat} {l0 l1 l2 l3 l4 l5 : Option Value} {v2 v3 : Value} {x y : Int32} {m : jmM} {Q : Option Value → jmM → Prop} : AW d 164 147 [l0, l1, l2, l3, l4, l5] [.int y, .int x, v2, v3] m Q ↔ AW d 164 148 [l0, l1, l2, l3, l4, l5] [.int (x - y), v2, v3] m Q := A_isub hB_X11_tried dX11_tried_147
theorem dX11_tried_148 : decode cX11_tried 148 = .ok (.invokevirtual 275, 3) := by decide +kernel
theorem tX11_tried_148 {d : Nat} {l0 l1 l2 l3 l4 l5 : Option Value} {y0 y1 : Value} {a : Nat} {m : jmM} {Q : Option Value → jmM → Prop} : AW d 164 148 [l0, l1, l2, l3, l4, l5] [y0, y1, .ref a] m Q ↔ (mS m a).1 = 5 ∧ CC d 70 [.ref a, y1, y0] m (jK d 164 151 [l0, l1, l2, l3, l4, l5] [] Q) := A_callV hB_X11_tried dX11_tried_148 hO_X11_tried fS_11_275 ⟨Nat.le_of_ble_eq_true rfl, Nat.le_of_ble_eq_true rfl⟩ rfl rfl rfl
theorem dX11_tried_151 : decode cX11_tried 151 = .ok (.ireturn, 1) := by decide +kernel
theorem tX11_tried_151 {d : Nat} {l0 l1 l2 l3 l4 l5 : Option Value} {x : Int32} {m : jmM} {Q : Option Value → jmM → Prop} : AW d 164 151 [l0, l1, l2, l3, l4, l5] [.int x] m Q ↔ Q (some (.int x)) m := A_ireturn hB_X11_tried dX11_tried_151 hR_X11_tried
theorem dX11_tried_152 : decode cX11_tried 152 = .ok (.aload_n 0, 1) := by decide +kernel
theorem tX11_tried_152 {d : Nat} {l1 l2 l3 l4 l5 : Option Value} {x : Nat} {m : jmM} {Q : Option Value → jmM → Prop} : AW d 164 152 [some (.ref x), l1, l2, l3, l4, l5] [] m Q ↔ AW d 164 153 [some (.ref x), l1, l2, l3, l4, l5] [.ref x] m Q := A_aload_n hB_X11_tried dX11_tried_152 rfl
theorem dX11_tried_153 : decode cX11_tried 153 = .ok (.getfield 60, 3) := by decide +kernel
theorem tX11_tried_153 {d : Nat} {l0 l1 l2 l3 l4 l5 : Option Value} {a : Nat} {m : jmM} {Q : Option Value → jmM → Prop} : AW d 164 153 [l0, l1, l2, l3, l4, l5] [.ref a] m Q ↔ (mS m a).1 = 11 ∧ AW d 164 156 [l0, l1, l2, l3, l4, l5] [va_rf (mR m a 9)] m Q := A_getfield (f := fun m a => va_rf (mR m a 9)) hB_X11_tried dX11_tried_153 hO_X11_tried fF_11_60 rfl
theorem dX11_tried_156 : decode cX11_tried 156 = .ok (.invokevirtual 170, 3) := by decide +kernel
theorem tX11_tried_156 {d : Nat} {l0 l1 l2 l3 l4 l5 : Option Value} {a : Nat} {m : jmM} {Q : Option Value → jmM → Prop} : AW d 164 156 [l0, l1, l2, l3, l4, l5] [.ref a] m Q ↔ (mS m a).1 = 5 ∧ CC d 74 [.ref a] m (jK d 164 159 [l0, l1, l2, l3, l4, l5] [] Q) := A_callV hB_X11_tried dX11_tried_156 hO_X11_tried fS_11_170 ⟨Nat.le_of_ble_eq_true rfl, Nat.le_of_ble_eq_true rfl⟩ rfl rfl rfl
theorem dX11_tried_159 : decode cX11_tried 159 = .ok (.aload_n 0, 1) := by decide +kernel
theorem tX11_tried_159 {d : Nat} {l1 l2 l3 l4 l5 : Option Value} {v0 : Value} {x : Nat} {m : jmM} {Q : Option Value → jmM → Prop} : AW d 164 159 [some (.ref x), l1, l2, l3, l4, l5] [v0] m Q ↔ AW d 164 160 [some (.ref x), l1, l2, l3, l4, l5] [.ref x, v0] m Q := A_aload_n hB_X11_tried dX11_tried_159 rfl
theorem dX11_tried_160 : decode cX11_tried 160 = .ok (.getfield 56, 3) := by decide +kernel
theorem tX11_tried_160 {d : Nat} {l0 l1 l2 l3 l4 l5 : Option Value} {v1 : Value} {a : Nat} {m : jmM} {Q : Option Value → jmM → Prop} : AW d 164 160 [l0, l1, l2, l3, l4, l5] [.ref a, v1] m Q ↔ (mS m a).1 = 11 ∧ AW d 164 163 [l0, l1, l2, l3, l4, l5] [va_rf (mR m a 8), v1] m Q := A_getfield (f := fun m a => va_rf (mR m a 8)) hB_X11_tried dX11_tried_160 hO_X11_tried fF_11_56 rfl
theorem dX11_tried_163 : decode cX11_tried 163 = .ok (.invokevirtual 170, 3) := by decide +kernel
theorem tX11_tried_163 {d : Nat} {l0 l1 l2 l3 l4 l5 : Option Value} {v1 : Value} {a : Nat} {m : jmM} {Q : Option Value → jmM → Prop} : AW d 164 163 [l0, l1, l2, l3, l4, l5] [.ref a, v1] m Q ↔ (mS m a).1 = 5 ∧ CC d 74 [.ref a] m (jK d 164 166 [l0, l1, l2, l3, l4, l5] [v1] Q) := A_callV hB_X11_tried dX11_tried_163 hO_X11_tried fS_11_170 ⟨Nat.le_of_ble_eq_true rfl, Nat.le_of_ble_eq_true rfl⟩ rfl rfl rfl
theorem dX11_tried_166 : decode cX11_tried 166 = .ok (.isub, 1) := by decide +kernel
theorem tX11_tried_166 {d : Nat} {l0 l1 l2 l3 l4 l5 : Option Value} {x y : Int32} {m : jmM} {Q : Option Value → jmM → Prop} : AW d 164 166 [l0, l1, l2, l3, l4, l5] [.int y, .int x] m Q ↔ AW d 164 167 [l0, l1, l2, l3, l4, l5] [.int (x - y)] m Q := A_isub hB_X11_tried dX11_tried_166
theorem dX11_tried_167 : decode cX11_tried 167 = .ok (.ireturn, 1) := by decide +kernel
theorem tX11_tried_167 {d : Nat} {l0 l1 l2 l3 l4 l5 : Option Value} {x : Int32} {m : jmM} {Q : Option Value → jmM → Prop} : AW d 164 167 [l0, l1, l2, l3, l4, l5] [.int x] m Q ↔ Q (some (.int x)) m := A_ireturn hB_X11_tried dX11_tried_167 hR_X11_tried
theorem dX11_tried_168 : decode cX11_tried 168 = .ok (.aload_n 0, 1) := by decide +kernel
theorem tX11_tried_168 {d : Nat} {l1 l2 l3 l4 l5 : Option Value} {x : Nat} {m : jmM} {Q : Option Value → jmM → Prop} : AW d 164 168 [some (.ref x), l1, l2, l3, l4, l5] [] m Q ↔ AW d 164 169 [some (.ref x), l1, l2, l3, l4, l5] [.ref x] m Q := A_aload_n hB_X11_tried dX11_tried_168 rfl
theorem dX11_tried_169 : decode cX11_tried 169 = .ok (.getfield 56, 3) := by decide +kernel
theorem tX11_tried_169 {d : Nat} {l0 l1 l2 l3 l4 l5 : Option Value} {a : Nat} {m : jmM} {Q : Option Value → jmM → Prop} : AW d 164 169 [l0, l1, l2, l3, l4, l5] [.ref a] m Q ↔ (mS m a).1 = 11 ∧ AW d 164 172 [l0, l1, l2, l3, l4, l5] [va_rf (mR m a 8)] m Q := A_getfield (f := fun m a => va_rf (mR m a 8)) hB_X11_tried dX11_tried_169 hO_X11_tried fF_11_56 rfl
theorem dX11_tried_172 : decode cX11_tried 172 = .ok (.invokevirtual 173, 3) := by decide +kernel
theorem tX11_tried_172 {d : Nat} {l0 l1 l2 l3 l4 l5 : Option Value} {a : Nat} {m : jmM} {Q : Option Value → jmM → Prop} : AW d 164 172 [l0, l1, l2, l3, l4, l5] [.ref a] m Q ↔ (mS m a).1 = 5 ∧ CC d 75 [.ref a] m (jK d 164 175 [l0, l1, l2, l3, l4, l5] [] Q) := A_callV hB_X11_tried dX11_tried_172 hO_X11_tried fS_11_173 ⟨Nat.le_of_ble_eq_true rfl, Nat.le_of_ble_eq_true rfl⟩ rfl rfl rfl
theorem dX11_tried_175 : decode cX11_tried 175 = .ok (.aload_n 0, 1) := by decide +kernel
theorem tX11_tried_175 {d : Nat} {l1 l2 l3 l4 l5 : Option Value} {v0 : Value} {x : Nat} {m : jmM} {Q : Option Value → jmM → Prop} : AW d 164 175 [some (.ref x), l1, l2, l3, l4, l5] [v0] m Q ↔ AW d 164 176 [some (.ref x), l1, l2, l3, l4, l5] [.ref x, v0] m Q := A_aload_n hB_X11_tried dX11_tried_175 rfl
theorem dX11_tried_176 : decode cX11_tried 176 = .ok (.getfield 60, 3) := by decide +kernel
theorem tX11_tried_176 {d : Nat} {l0 l1 l2 l3 l4 l5 : Option Value} {v1 : Value} {a : Nat} {m : jmM} {Q : Option Value → jmM → Prop} : AW d 164 176 [l0, l1, l2, l3, l4, l5] [.ref a, v1] m Q ↔ (mS m a).1 = 11 ∧ AW d 164 179 [l0, l1, l2, l3, l4, l5] [va_rf (mR m a 9), v1] m Q := A_getfield (f := fun m a => va_rf (mR m a 9)) hB_X11_tried dX11_tried_176 hO_X11_tried fF_11_60 rfl
theorem dX11_tried_179 : decode cX11_tried 179 = .ok (.invokevirtual 173, 3) := by decide +kernel
theorem tX11_tried_179 {d : Nat} {l0 l1 l2 l3 l4 l5 : Option Value} {v1 : Value} {a : Nat} {m : jmM} {Q : Option Value → jmM → Prop} : AW d 164 179 [l0, l1, l2, l3, l4, l5] [.ref a, v1] m Q ↔ (mS m a).1 = 5 ∧ CC d 75 [.ref a] m (jK d 164 182 [l0, l1, l2, l3, l4, l5] [v1] Q) := A_callV hB_X11_tried dX11_tried_179 hO_X11_tried fS_11_173 ⟨Nat.le_of_ble_eq_true rfl, Nat.le_of_ble_eq_true rfl⟩ rfl rfl rfl
theorem dX11_tried_182 : decode cX11_tried 182 = .ok (.isub, 1) := by decide +kernel
theorem tX11_tried_182 {d : Nat} {l0 l1 l2 l3 l4 l5 : Option Value} {x y : Int32} {m : jmM} {Q : Option Value → jmM → Prop} : AW d 164 182 [l0, l1, l2, l3, l4, l5] [.int y, .int x] m Q ↔ AW d 164 183 [l0, l1, l2, l3, l4, l5] [.int (x - y)] m Q := A_isub hB_X11_tried dX11_tried_182
theorem dX11_tried_183 : decode cX11_tried 183 = .ok (.ireturn, 1) := by decide +kernel
theorem tX11_tried_183 {d : Nat} {l0 l1 l2 l3 l4 l5 : Option Value} {x : Int32} {m : jmM} {Q : Option Value → jmM → Prop} : AW d 164 183 [l0, l1, l2, l3, l4, l5] [.int x] m Q ↔ Q (some (.int x)) m := A_ireturn hB_X11_tried dX11_tried_183 hR_X11_tried
theorem dX11_tried_184 : decode cX11_tried 184 = .ok (.aload_n 0, 1) := by decide +kernel
theorem tX11_tried_184 {d : Nat} {l1 l2 l3 l4 l5 : Option Value} {x : Nat} {m : jmM} {Q : Option Value → jmM → Prop} : AW d 164 184 [some (.ref x), l1, l2, l3, l4, l5] [] m Q ↔ AW d 164 185 [some (.ref x), l1, l2, l3, l4, l5] [.ref x] m Q := A_aload_n hB_X11_tried dX11_tried_184 rfl
theorem dX11_tried_185 : decode cX11_tried 185 = .ok (.getfield 60, 3) := by decide +kernel
theorem tX11_tried_185 {d : Nat} {l0 l1 l2 l3 l4 l5 : Option Value} {a : Nat} {m : jmM} {Q : Option Value → jmM → Prop} : AW d 164 185 [l0, l1, l2, l3, l4, l5] [.ref a] m Q ↔ (mS m a).1 = 11 ∧ AW d 164 188 [l0, l1, l2, l3, l4, l5] [va_rf (mR m a 9)] m Q := A_getfield (f := fun m a => va_rf (mR m a 9)) hB_X11_tried dX11_tried_185 hO_X11_tried fF_11_60 rfl
theorem dX11_tried_188 : decode cX11_tried 188 = .ok (.invokevirtual 176, 3) := by decide +kernel
theorem tX11_tried_188 {d : Nat} {l0 l1 l2 l3 l4 l5 : Option Value} {a : Nat} {m : jmM} {Q : Option Value → jmM → Prop} : AW d 164 188 [l0, l1, l2, l3, l4, l5] [.ref a] m Q ↔ (mS m a).1 = 5 ∧ CC d 76 [.ref a] m (jK d 164 191 [l0, l1, l2, l3, l4, l5] [] Q) := A_callV hB_X11_tried dX11_tried_188 hO_X11_tried fS_11_176 ⟨Nat.le_of_ble_eq_true rfl, Nat.le_of_ble_eq_true rfl⟩ rfl rfl rfl
theorem dX11_tried_191 : decode cX11_tried 191 = .ok (.ireturn, 1) := by decide +kernel
theorem tX11_tried_191 {d : Nat} {l0 l1 l2 l3 l4 l5 : Option Value} {x : Int32} {m : jmM} {Q : Option Value → jmM → Prop} : AW d 164 191 [l0, l1, l2, l3, l4, l5] [.int x] m Q ↔ Q (some (.int x)) m := A_ireturn hB_X11_tried dX11_tried_191 hR_X11_tried
theorem hB_X11_best : jB 165 = cX11_best := rfl
theorem hO_X11_best : jO 165 = 11 := rfl
theorem hR_X11_best : jRt 165 = (some .int) := rfl
theorem nX11_best (d : Nat) (x0 : Nat) (x1 : Int32) (m : jmM) (Q : Option Value → jmM → Prop) : CC (d + 1) 165 [.ref x0, .int x1] m Q ↔ AW d 165 0 [some (.ref x0), some (.int x1), none, none, none, none, none, none] [] m Q := CC_body (Nat.le_of_ble_eq_true rfl)
theorem dX11_best_0 : decode cX11_best 0 = .ok (.aload_n 0, 1) := by decide +kernel
theorem tX11_best_0 {d : Nat} {l1 l2 l3 l4 l5 l6 l7 : Option Value} {x : Nat} {m : jmM} {Q : Option Value → jmM → Prop} : AW d 165 0 [some (.ref x), l1, l2, l3, l4, l5, l6, l7] [] m Q ↔ AW d 165 1 [some (.ref x), l1, l2, l3, l4, l5, l6, l7] [.ref x] m Q := A_aload_n hB_X11_best dX11_best_0 rfl
theorem dX11_best_1 : decode cX11_best 1 = .ok (.getfield 56, 3) := by decide +kernel
theorem tX11_best_1 {d : Nat} {l0 l1 l2 l3 l4 l5 l6 l7 : Option Value} {a : Nat} {m : jmM} {Q : Option Value → jmM → Prop} : AW d 165 1 [l0, l1, l2, l3, l4, l5, l6, l7] [.ref a] m Q ↔ (mS m a).1 = 11 ∧ AW d 165 4 [l0, l1, l2, l3, l4, l5, l6, l7] [va_rf (mR m a 8)] m Q := A_getfield (f := fun m a => va_rf (mR m a 8)) hB_X11_best dX11_best_1 hO_X11_best fF_11_56 rfl
theorem dX11_best_4 : decode cX11_best 4 = .ok (.invokevirtual 159, 3) := by decide +kernel
theorem tX11_best_4 {d : Nat} {l0 l1 l2 l3 l4 l5 l6 l7 : Option Value} {a : Nat} {m : jmM} {Q : Option Value → jmM → Prop} : AW d 165 4 [l0, l1, l2, l3, l4, l5, l6, l7] [.ref a] m Q ↔ (mS m a).1 = 5 ∧ CC d 73 [.ref a] m (jK d 165 7 [l0, l1, l2, l3, l4, l5, l6, l7] [] Q) := A_callV hB_X11_best dX11_best_4 hO_X11_best fS_11_159 ⟨Nat.le_of_ble_eq_true rfl, Nat.le_of_ble_eq_true rfl⟩ rfl rfl rfl
theorem dX11_best_7 : decode cX11_best 7 = .ok (.iconst 1, 1) := by decide +kernel
theorem tX11_best_7 {d : Nat} {l0 l1 l2 l3 l4 l5 l6 l7 : Option Value} {v0 : Value} {m : jmM} {Q : Option Value → jmM → Prop} : AW d 165 7 [l0, l1, l2, l3, l4, l5, l6, l7] [v0] m Q ↔ AW d 165 8 [l0, l1, l2, l3, l4, l5, l6, l7] [.int 1, v0] m Q := A_iconst hB_X11_best dX11_best_7 (by decide)
theorem dX11_best_8 : decode cX11_best 8 = .ok (.if_icmp .ne 14, 3) := by decide +kernel
theorem tX11_best_8 {d : Nat} {l0 l1 l2 l3 l4 l5 l6 l7 : Option Value} {x y : Int32} {m : jmM} {Q : Option Value → jmM → Prop} : AW d 165 8 [l0, l1, l2, l3, l4, l5, l6, l7] [.int y, .int x] m Q ↔ if x = y then AW d 165 11 [l0, l1, l2, l3, l4, l5, l6, l7] [] m Q else AW d 165 22 [l0, l1, l2, l3, l4, l5, l6, l7] [] m Q := A_icmp_ne hB_X11_best dX11_best_8 (by decide)
theorem dX11_best_11 : decode cX11_best 11 = .ok (.iload_n 1, 1) := by decide +kernel
theorem tX11_best_11 {d : Nat} {l0 l2 l3 l4 l5 l6 l7 : Option Value} {x : Int32} {m : jmM} {Q : Option Value → jmM → Prop} : AW d 165 11 [l0, some (.int x), l2, l3, l4, l5, l6, l7] [] m Q ↔ AW d 165 12 [l0, some (.int x), l2, l3, l4, l5, l6, l7] [.int x] m Q := A_iload_n hB_X11_best dX11_best_11 rfl
theorem dX11_best_12 : decode cX11_best 12 = .ok (.iconst 1, 1) := by decide +kernel
theorem tX11_best_12 {d : Nat} {l0 l1 l2 l3 l4 l5 l6 l7 : Option Value} {v0 : Value} {m : jmM} {Q : Option Value → jmM → Prop} : AW d 165 12 [l0, l1, l2, l3, l4, l5, l6, l7] [v0] m Q ↔ AW d 165 13 [l0, l1, l2, l3, l4, l5, l6, l7] [.int 1, v0] m Q := A_iconst hB_X11_best dX11_best_12 (by decide)
theorem dX11_best_13 : decode cX11_best 13 = .ok (.sipush 300, 3) := by decide +kernel
theorem tX11_best_13 {d : Nat} {l0 l1 l2 l3 l4 l5 l6 l7 : Option Value} {v0 v1 : Value} {m : jmM} {Q : Option Value → jmM → Prop} : AW d 165 13 [l0, l1, l2, l3, l4, l5, l6, l7] [v0, v1] m Q ↔ AW d 165 16 [l0, l1, l2, l3, l4, l5, l6, l7] [.int 300, v0, v1] m Q := A_sipush hB_X11_best dX11_best_13 rfl
theorem dX11_best_16 : decode cX11_best 16 = .ok (.invokestatic 128, 3) := by decide +kernel
theorem tX11_best_16 {d : Nat} {l0 l1 l2 l3 l4 l5 l6 l7 : Option Value} {y0 y1 y2 : Value} {m : jmM} {Q : Option Value → jmM → Prop} : AW d 165 16 [l0, l1, l2, l3, l4, l5, l6, l7] [y0, y1, y2] m Q ↔ CC d 183 [y2, y1, y0] m (jK d 165 19 [l0, l1, l2, l3, l4, l5, l6, l7] [] Q) := A_callS0 hB_X11_best dX11_best_16 hO_X11_best fS_11_128 ⟨Nat.le_of_ble_eq_true rfl, Nat.le_of_ble_eq_true rfl⟩ rfl rfl
theorem dX11_best_19 : decode cX11_best 19 = .ok (.ifCond .ne 5, 3) := by decide +kernel
theorem tX11_best_19 {d : Nat} {l0 l1 l2 l3 l4 l5 l6 l7 : Option Value} {x : Int32} {m : jmM} {Q : Option Value → jmM → Prop} : AW d 165 19 [l0, l1, l2, l3, l4, l5, l6, l7] [.int x] m Q ↔ if x = 0 then AW d 165 22 [l0, l1, l2, l3, l4, l5, l6, l7] [] m Q else AW d 165 24 [l0, l1, l2, l3, l4, l5, l6, l7] [] m Q := A_if_ne hB_X11_best dX11_best_19 (by decide)
theorem dX11_best_22 : decode cX11_best 22 = .ok (.iconst (-1), 1) := by decide +kernel
theorem tX11_best_22 {d : Nat} {l0 l1 l2 l3 l4 l5 l6 l7 : Option Value} {m : jmM} {Q : Option Value → jmM → Prop} : AW d 165 22 [l0, l1, l2, l3, l4, l5, l6, l7] [] m Q ↔ AW d 165 23 [l0, l1, l2, l3, l4, l5, l6, l7] [.int (-1)] m Q := A_iconst hB_X11_best dX11_best_22 (by decide)
theorem dX11_best_23 : decode cX11_best 23 = .ok (.ireturn, 1) := by decide +kernel
theorem tX11_best_23 {d : Nat} {l0 l1 l2 l3 l4 l5 l6 l7 : Option Value} {x : Int32} {m : jmM} {Q : Option Value → jmM → Prop} : AW d 165 23 [l0, l1, l2, l3, l4, l5, l6, l7] [.int x] m Q ↔ Q (some (.int x)) m := A_ireturn hB_X11_best dX11_best_23 hR_X11_best
theorem dX11_best_24 : decode cX11_best 24 = .ok (.iconst (-1), 1) := by decide +kernel
theorem tX11_best_24 {d : Nat} {l0 l1 l2 l3 l4 l5 l6 l7 : Option Value} {m : jmM} {Q : Option Value → jmM → Prop} : AW d 165 24 [l0, l1, l2, l3, l4, l5, l6, l7] [] m Q ↔ AW d 165 25 [l0, l1, l2, l3, l4, l5, l6, l7] [.int (-1)] m Q := A_iconst hB_X11_best dX11_best_24 (by decide)
theorem dX11_best_25 : decode cX11_best 25 = .ok (.istore_n 2, 1) := by decide +kernel
theorem tX11_best_25 {d : Nat} {l0 l1 l2 l3 l4 l5 l6 l7 : Option Value} {x : Int32} {m : jmM} {Q : Option Value → jmM → Prop} : AW d 165 25 [l0, l1, l2, l3, l4, l5, l6, l7] [.int x] m Q ↔ AW d 165 26 [l0, jc1 l1, some (.int x), l3, l4, l5, l6, l7] [] m Q := A_istore_n hB_X11_best dX11_best_25 (Nat.le_of_ble_eq_true rfl) rfl
theorem dX11_best_26 : decode cX11_best 26 = .ok (.iconst 0, 1) := by decide +kernel
theorem tX11_best_26 {d : Nat} {l0 l1 l2 l3 l4 l5 l6 l7 : Option Value} {m : jmM} {Q : Option Value → jmM → Prop} : AW d 165 26 [l0, l1, l2, l3, l4, l5, l6, l7] [] m Q ↔ AW d 165 27 [l0, l1, l2, l3, l4, l5, l6, l7] [.int 0] m Q := A_iconst hB_X11_best dX11_best_26 (by decide)
theorem dX11_best_27 : decode cX11_best 27 = .ok (.istore_n 3, 1) := by decide +kernel
theorem tX11_best_27 {d : Nat} {l0 l1 l2 l3 l4 l5 l6 l7 : Option Value} {x : Int32} {m : jmM} {Q : Option Value → jmM → Prop} : AW d 165 27 [l0, l1, l2, l3, l4, l5, l6, l7] [.int x] m Q ↔ AW d 165 28 [l0, l1, jc1 l2, some (.int x), l4, l5, l6, l7] [] m Q := A_istore_n hB_X11_best dX11_best_27 (Nat.le_of_ble_eq_true rfl) rfl
theorem dX11_best_28 : decode cX11_best 28 = .ok (.iconst 0, 1) := by decide +kernel
theorem tX11_best_28 {d : Nat} {l0 l1 l2 l3 l4 l5 l6 l7 : Option Value} {m : jmM} {Q : Option Value → jmM → Prop} : AW d 165 28 [l0, l1, l2, l3, l4, l5, l6, l7] [] m Q ↔ AW d 165 29 [l0, l1, l2, l3, l4, l5, l6, l7] [.int 0] m Q := A_iconst hB_X11_best dX11_best_28 (by decide)
theorem dX11_best_29 : decode cX11_best 29 = .ok (.istore 4, 2) := by decide +kernel
theorem tX11_best_29 {d : Nat} {l0 l1 l2 l3 l4 l5 l6 l7 : Option Value} {x : Int32} {m : jmM} {Q : Option Value → jmM → Prop} : AW d 165 29 [l0, l1, l2, l3, l4, l5, l6, l7] [.int x] m Q ↔ AW d 165 31 [l0, l1, l2, jc1 l3, some (.int x), l5, l6, l7] [] m Q := A_istore hB_X11_best dX11_best_29 (Nat.le_of_ble_eq_true rfl) rfl
theorem dX11_best_31 : decode cX11_best 31 = .ok (.iconst 0, 1) := by decide +kernel
theorem tX11_best_31 {d : Nat} {l0 l1 l2 l3 l4 l5 l6 l7 : Option Value} {m : jmM} {Q : Option Value → jmM → Prop} : AW d 165 31 [l0, l1, l2, l3, l4, l5, l6, l7] [] m Q ↔ AW d 165 32 [l0, l1, l2, l3, l4, l5, l6, l7] [.int 0] m Q := A_iconst hB_X11_best dX11_best_31 (by decide)
theorem dX11_best_32 : decode cX11_best 32 = .ok (.istore 5, 2) := by decide +kernel
theorem tX11_best_32 {d : Nat} {l0 l1 l2 l3 l4 l5 l6 l7 : Option Value} {x : Int32} {m : jmM} {Q : Option Value → jmM → Prop} : AW d 165 32 [l0, l1, l2, l3, l4, l5, l6, l7] [.int x] m Q ↔ AW d 165 34 [l0, l1, l2, l3, jc1 l4, some (.int x), l6, l7] [] m Q := A_istore hB_X11_best dX11_best_32 (Nat.le_of_ble_eq_true rfl) rfl
theorem dX11_best_34 : decode cX11_best 34 = .ok (.iload 5, 2) := by decide +kernel
theorem tX11_best_34 {d : Nat} {l0 l1 l2 l3 l4 l6 l7 : Option Value} {x : Int32} {m : jmM} {Q : Option Value → jmM → Prop} : AW d 165 34 [l0, l1, l2, l3, l4, some (.int x), l6, l7] [] m Q ↔ AW d 165 36 [l0, l1, l2, l3, l4, some (.int x), l6, l7] [.int x] m Q := A_iload hB_X11_best dX11_best_34 rfl
theorem dX11_best_36 : decode cX11_best 36 = .ok (.aload_n 0, 1) := by decide +kernel
theorem tX11_best_36 {d : Nat} {l1 l2 l3 l4 l5 l6 l7 : Option Value} {v0 : Value} {x : Nat} {m : jmM} {Q : Option Value → jmM → Prop} : AW d 165 36 [some (.ref x), l1, l2, l3, l4, l5, l6, l7] [v0] m Q ↔ AW d 165 37 [some (.ref x), l1, l2, l3, l4, l5, l6, l7] [.ref x, v0] m Q := A_aload_n hB_X11_best dX11_best_36 rfl
theorem dX11_best_37 : decode cX11_best 37 = .ok (.getfield 32, 3) := by decide +kernel
theorem tX11_best_37 {d : Nat} {l0 l1 l2 l3 l4 l5 l6 l7 : Option Value} {v1 : Value} {a : Nat} {m : jmM} {Q : Option Value → jmM → Prop} : AW d 165 37 [l0, l1, l2, l3, l4, l5, l6, l7] [.ref a, v1] m Q ↔ (mS m a).1 = 11 ∧ AW d 165 40 [l0, l1, l2, l3, l4, l5, l6, l7] [va_rf (mR m a 3), v1] m Q := A_getfield (f := fun m a => va_rf (mR m a 3)) hB_X11_best dX11_best_37 hO_X11_best fF_11_32 rfl
theorem dX11_best_40 : decode cX11_best 40 = .ok (.invokevirtual 191, 3) := by decide +kernel
theorem tX11_best_40 {d : Nat} {l0 l1 l2 l3 l4 l5 l6 l7 : Option Value} {v1 : Value} {a : Nat} {m : jmM} {Q : Option Value → jmM → Prop} : AW d 165 40 [l0, l1, l2, l3, l4, l5, l6, l7] [.ref a, v1] m Q ↔ (mS m a).1 = 4 ∧ CC d 42 [.ref a] m (jK d 165 43 [l0, l1, l2, l3, l4, l5, l6, l7] [v1] Q) := A_callV hB_X11_best dX11_best_40 hO_X11_best fS_11_191 ⟨Nat.le_of_ble_eq_true rfl, Nat.le_of_ble_eq_true rfl⟩ rfl rfl rfl
theorem dX11_best_43 : decode cX11_best 43 = .ok (.if_icmp .ge 108, 3) := by decide +kernel
theorem tX11_best_43 {d : Nat} {l0 l1 l2 l3 l4 l5 l6 l7 : Option Value} {x y : Int32} {m : jmM} {Q : Option Value → jmM → Prop} : AW d 165 43 [l0, l1, l2, l3, l4, l5, l6, l7] [.int y, .int x] m Q ↔ if y ≤ x then AW d 165 151 [l0, l1, l2, l3, l4, l5, l6, l7] [] m Q else AW d 165 46 [l0, l1, l2, l3, l4, l5, l6, l7] [] m Q := A_icmp_ge hB_X11_best dX11_best_43 (by decide)
theorem dX11_best_46 : decode cX11_best 46 = .ok (.aload_n 0, 1) := by decide +kernel
theorem tX11_best_46 {d : Nat} {l1 l2 l3 l4 l5 l6 l7 : Option Value} {x : Nat} {m : jmM} {Q : Option Value → jmM → Prop} : AW d 165 46 [some (.ref x), l1, l2, l3, l4, l5, l6, l7] [] m Q ↔ AW d 165 47 [some (.ref x), l1, l2, l3, l4, l5, l6, l7] [.ref x] m Q := A_aload_n hB_X11_best dX11_best_46 rfl
theorem dX11_best_47 : decode cX11_best 47 = .ok (.aload_n 0, 1) := by decide +kernel
theorem tX11_best_47 {d : Nat} {l1 l2 l3 l4 l5 l6 l7 : Option Value} {v0 : Value} {x : Nat} {m : jmM} {Q : Option Value → jmM → Prop} : AW d 165 47 [some (.ref x), l1, l2, l3, l4, l5, l6, l7] [v0] m Q ↔ AW d 165 48 [some (.ref x), l1, l2, l3, l4, l5, l6, l7] [.ref x, v0] m Q := A_aload_n hB_X11_best dX11_best_47 rfl
theorem dX11_best_48 : decode cX11_best 48 = .ok (.getfield 32, 3) := by decide +kernel
theorem tX11_best_48 {d : Nat} {l0 l1 l2 l3 l4 l5 l6 l7 : Option Value} {v1 : Value} {a : Nat} {m : jmM} {Q : Option Value → jmM → Prop} : AW d 165 48 [l0, l1, l2, l3, l4, l5, l6, l7] [.ref a, v1] m Q ↔ (mS m a).1 = 11 ∧ AW d 165 51 [l0, l1, l2, l3, l4, l5, l6, l7] [va_rf (mR m a 3), v1] m Q := A_getfield (f := fun m a => va_rf (mR m a 3)) hB_X11_best dX11_best_48 hO_X11_best fF_11_32 rfl
theorem dX11_best_51 : decode cX11_best 51 = .ok (.iload 5, 2) := by decide +kernel
theorem tX11_best_51 {d : Nat} {l0 l1 l2 l3 l4 l6 l7 : Option Value} {v0 v1 : Value} {x : Int32} {m : jmM} {Q : Option Value → jmM → Prop} : AW d 165 51 [l0, l1, l2, l3, l4, some (.int x), l6, l7] [v0, v1] m Q ↔ AW d 165 53 [l0, l1, l2, l3, l4, some (.int x), l6, l7] [.int x, v0, v1] m Q := A_iload hB_X11_best dX11_best_51 rfl
theorem dX11_best_53 : decode cX11_best 53 = .ok (.invokevirtual 136, 3) := by decide +kernel
theorem tX11_best_53 {d : Nat} {l0 l1 l2 l3 l4 l5 l6 l7 : Option Value} {v2 : Value} {y0 : Value} {a : Nat} {m : jmM} {Q : Option Value → jmM → Prop} : AW d 165 53 [l0, l1, l2, l3, l4, l5, l6, l7] [y0, .ref a, v2] m Q ↔ (mS m a).1 = 4 ∧ CC d 45 [.ref a, y0] m (jK d 165 56 [l0, l1, l2, l3, l4, l5, l6, l7] [v2] Q) := A_callV hB_X11_best dX11_best_53 hO_X11_best fS_11_136 ⟨Nat.le_of_ble_eq_true rfl, Nat.le_of_ble_eq_true rfl⟩ rfl rfl rfl
theorem dX11_best_56 : decode cX11_best 56 = .ok (.iload_n 1, 1) := by decide +kernel
theorem tX11_best_56 {d : Nat} {l0 l2 l3 l4 l5 l6 l7 : Option Value} {v0 v1 : Value} {x : Int32} {m : jmM} {Q : Option Value → jmM → Prop} : AW d 165 56 [l0, some (.int x), l2, l3, l4, l5, l6, l7] [v0, v1] m Q ↔ AW d 165 57 [l0, some (.int x), l2, l3, l4, l5, l6, l7] [.int x, v0, v1] m Q := A_iload_n hB_X11_best dX11_best_56 rfl
theorem dX11_best_57 : decode cX11_best 57 = .ok (.iconst 0, 1) := by decide +kernel
theorem tX11_best_57 {d : Nat} {l0 l1 l2 l3 l4 l5 l6 l7 : Option Value} {v0 v1 v2 : Value} {m : jmM} {Q : Option Value → jmM → Prop} : AW d 165 57 [l0, l1, l2, l3, l4, l5, l6, l7] [v0, v1, v2] m Q ↔ AW d 165 58 [l0, l1, l2, l3, l4, l5, l6, l7] [.int 0, v0, v1, v2] m Q := A_iconst hB_X11_best dX11_best_57 (by decide)
theorem dX11_best_58 : decode cX11_best 58 = .ok (.invokevirtual 278, 3) := by decide +kernel
theorem tX11_best_58 {d : Nat} {l0 l1 l2 l3 l4 l5 l6 l7 : Option Value} {y0 y1 y2 : Value} {a : Nat} {m : jmM} {Q : Option Value → jmM → Prop} : AW d 165 58 [l0, l1, l2, l3, l4, l5, l6, l7] [y0, y1, y2, .ref a] m Q ↔ (mS m a).1 = 11 ∧ CC d 179 [.ref a, y2, y1, y0] m (jK d 165 61 [l0, l1, l2, l3, l4, l5, l6, l7] [] Q) := A_callV hB_X11_best dX11_best_58 hO_X11_best fS_11_278 ⟨Nat.le_of_ble_eq_true rfl, Nat.le_of_ble_eq_true rfl⟩ rfl rfl rfl
theorem dX11_best_61 : decode cX11_best 61 = .ok (.aload_n 0, 1) := by decide +kernel
theorem tX11_best_61 {d : Nat} {l1 l2 l3 l4 l5 l6 l7 : Option Value} {x : Nat} {m : jmM} {Q : Option Value → jmM → Prop} : AW d 165 61 [some (.ref x), l1, l2, l3, l4, l5, l6, l7] [] m Q ↔ AW d 165 62 [some (.ref x), l1, l2, l3, l4, l5, l6, l7] [.ref x] m Q := A_aload_n hB_X11_best dX11_best_61 rfl
theorem dX11_best_62 : decode cX11_best 62 = .ok (.getfield 60, 3) := by decide +kernel
theorem tX11_best_62 {d : Nat} {l0 l1 l2 l3 l4 l5 l6 l7 : Option Value} {a : Nat} {m : jmM} {Q : Option Value → jmM → Prop} : AW d 165 62 [l0, l1, l2, l3, l4, l5, l6, l7] [.ref a] m Q ↔ (mS m a).1 = 11 ∧ AW d 165 65 [l0, l1, l2, l3, l4, l5, l6, l7] [va_rf (mR m a 9)] m Q := A_getfield (f := fun m a => va_rf (mR m a 9)) hB_X11_best dX11_best_62 hO_X11_best fF_11_60 rfl
theorem dX11_best_65 : decode cX11_best 65 = .ok (.aload_n 0, 1) := by decide +kernel
theorem tX11_best_65 {d : Nat} {l1 l2 l3 l4 l5 l6 l7 : Option Value} {v0 : Value} {x : Nat} {m : jmM} {Q : Option Value → jmM → Prop} : AW d 165 65 [some (.ref x), l1, l2, l3, l4, l5, l6, l7] [v0] m Q ↔ AW d 165 66 [some (.ref x), l1, l2, l3, l4, l5, l6, l7] [.ref x, v0] m Q := A_aload_n hB_X11_best dX11_best_65 rfl
theorem dX11_best_66 : decode cX11_best 66 = .ok (.getfield 56, 3) := by decide +kernel
theorem tX11_best_66 {d : Nat} {l0 l1 l2 l3 l4 l5 l6 l7 : Option Value} {v1 : Value} {a : Nat} {m : jmM} {Q : Option Value → jmM → Prop} : AW d 165 66 [l0, l1, l2, l3, l4, l5, l6, l7] [.ref a, v1] m Q ↔ (mS m a).1 = 11 ∧ AW d 165 69 [l0, l1, l2, l3, l4, l5, l6, l7] [va_rf (mR m a 8), v1] m Q := A_getfield (f := fun m a => va_rf (mR m a 8)) hB_X11_best dX11_best_66 hO_X11_best fF_11_56 rfl
theorem dX11_best_69 : decode cX11_best 69 = .ok (.invokevirtual 170, 3) := by decide +kernel
theorem tX11_best_69 {d : Nat} {l0 l1 l2 l3 l4 l5 l6 l7 : Option Value} {v1 : Value} {a : Nat} {m : jmM} {Q : Option Value → jmM → Prop} : AW d 165 69 [l0, l1, l2, l3, l4, l5, l6, l7] [.ref a, v1] m Q ↔ (mS m a).1 = 5 ∧ CC d 74 [.ref a] m (jK d 165 72 [l0, l1, l2, l3, l4, l5, l6, l7] [v1] Q) := A_callV hB_X11_best dX11_best_69 hO_X11_best fS_11_170 ⟨Nat.le_of_ble_eq_true rfl, Nat.le_of_ble_eq_true rfl⟩ rfl rfl rfl
theorem dX11_best_72 : decode cX11_best 72 = .ok (.aload_n 0, 1) := by decide +kernel
theorem tX11_best_72 {d : Nat} {l1 l2 l3 l4 l5 l6 l7 : Option Value} {v0 v1 : Value} {x : Nat} {m : jmM} {Q : Option Value → jmM → Prop} : AW d 165 72 [some (.ref x), l1, l2, l3, l4, l5, l6, l7] [v0, v1] m Q ↔ AW d 165 73 [some (.ref x), l1, l2, l3, l4, l5, l6, l7] [.ref x, v0, v1] m Q := A_aload_n hB_X11_best dX11_best_72 rfl
theorem dX11_best_73 : decode cX11_best 73 = .ok (.getfield 60, 3) := by decide +kernel
theorem tX11_best_73 {d : Nat} {l0 l1 l2 l3 l4 l5 l6 l7 : Option Value} {v1 v2 : Value} {a : Nat} {m : jmM} {Q : Option Value → jmM → Prop} : AW d 165 73 [l0, l1, l2, l3, l4, l5, l6, l7] [.ref a, v1, v2] m Q ↔ (mS m a).1 = 11 ∧ AW d 165 76 [l0, l1, l2, l3, l4, l5, l6, l7] [va_rf (mR m a 9), v1, v2] m Q := A_getfield (f := fun m a => va_rf (mR m a 9)) hB_X11_best dX11_best_73 hO_X11_best fF_11_60 rfl
theorem dX11_best_76 : decode cX11_best 76 = .ok (.invokevirtual 170, 3) := by decide +kernel
theorem tX11_best_76 {d : Nat} {l0 l1 l2 l3 l4 l5 l6 l7 : Option Value} {v1 v2 : Value} {a : Nat} {m : jmM} {Q : Option Value → jmM → Prop} : AW d 165 76 [l0, l1, l2, l3, l4, l5, l6, l7] [.ref a, v1, v2] m Q ↔ (mS m a).1 = 5 ∧ CC d 74 [.ref a] m (jK d 165 79 [l0, l1, l2, l3, l4, l5, l6, l7] [v1, v2] Q) := A_callV hB_X11_best dX11_best_76 hO_X11_best fS_11_170 ⟨Nat.le_of_ble_eq_true rfl, Nat.le_of_ble_eq_true rfl⟩ rfl rfl rfl
theorem dX11_best_79 : decode cX11_best 79 = .ok (.iconst 1, 1) := by decide +kernel
theorem tX11_best_79 {d : Nat} {l0 l1 l2 l3 l4 l5 l6 l7 : Option Value} {v0 v1 v2 : Value} {m : jmM} {Q : Option Value → jmM → Prop} : AW d 165 79 [l0, l1, l2, l3, l4, l5, l6, l7] [v0, v1, v2] m Q ↔ AW d 165 80 [l0, l1, l2, l3, l4, l5, l6, l7] [.int 1, v0, v1, v2] m Q := A_iconst hB_X11_best dX11_best_79 (by decide)
theorem dX11_best_80 : decode cX11_best 80 = .ok (.isub, 1) := by decide +kernel
theorem tX11_best_80 {d : Nat} {l0 l1 l2 l3 l4 l5 l6 l7 : Option Value} {v2 v3 : Value} {x y : Int32} {m : jmM} {Q : Option Value → jmM → Prop} : AW d 165 80 [l0, l1, l2, l3, l4, l5, l6, l7] [.int y, .int x, v2, v3] m Q ↔ AW d 165 81 [l0, l1, l2, l3, l4, l5, l6, l7] [.int (x - y), v2, v3] m Q := A_isub hB_X11_best dX11_best_80
theorem dX11_best_81 : decode cX11_best 81 = .ok (.invokevirtual 272, 3) := by decide +kernel
theorem tX11_best_81 {d : Nat} {l0 l1 l2 l3 l4 l5 l6 l7 : Option Value} {y0 y1 : Value} {a : Nat} {m : jmM} {Q : Option Value → jmM → Prop} : AW d 165 81 [l0, l1, l2, l3, l4, l5, l6, l7] [y0, y1, .ref a] m Q ↔ (mS m a).1 = 5 ∧ CC d 69 [.ref a, y1, y0] m (jK d 165 84 [l0, l1, l2, l3, l4, l5, l6, l7] [] Q) := A_callV hB_X11_best dX11_best_81 hO_X11_best fS_11_272 ⟨Nat.le_of_ble_eq_true rfl, Nat.le_of_ble_eq_true rfl⟩ rfl rfl rfl
theorem dX11_best_84 : decode cX11_best 84 = .ok (.istore 6, 2) := by decide +kernel
theorem tX11_best_84 {d : Nat} {l0 l1 l2 l3 l4 l5 l6 l7 : Option Value} {x : Int32} {m : jmM} {Q : Option Value → jmM → Prop} : AW d 165 84 [l0, l1, l2, l3, l4, l5, l6, l7] [.int x] m Q ↔ AW d 165 86 [l0, l1, l2, l3, l4, jc1 l5, some (.int x), l7] [] m Q := A_istore hB_X11_best dX11_best_84 (Nat.le_of_ble_eq_true rfl) rfl
theorem dX11_best_86 : decode cX11_best 86 = .ok (.aload_n 0, 1) := by decide +kernel
theorem tX11_best_86 {d : Nat} {l1 l2 l3 l4 l5 l6 l7 : Option Value} {x : Nat} {m : jmM} {Q : Option Value → jmM → Prop} : AW d 165 86 [some (.ref x), l1, l2, l3, l4, l5, l6, l7] [] m Q ↔ AW d 165 87 [some (.ref x), l1, l2, l3, l4, l5, l6, l7] [.ref x] m Q := A_aload_n hB_X11_best dX11_best_86 rfl
theorem dX11_best_87 : decode cX11_best 87 = .ok (.getfield 60, 3) := by decide +kernel
theorem tX11_best_87 {d : Nat} {l0 l1 l2 l3 l4 l5 l6 l7 : Option Value} {a : Nat} {m : jmM} {Q : Option Value → jmM → Prop} : AW d 165 87 [l0, l1, l2, l3, l4, l5, l6, l7] [.ref a] m Q ↔ (mS m a).1 = 11 ∧ AW d 165 90 [l0, l1, l2, l3, l4, l5, l6, l7] [va_rf (mR m a 9)] m Q := A_getfield (f := fun m a => va_rf (mR m a 9)) hB_X11_best dX11_best_87 hO_X11_best fF_11_60 rfl
theorem dX11_best_90 : decode cX11_best 90 = .ok (.aload_n 0, 1) := by decide +kernel
theorem tX11_best_90 {d : Nat} {l1 l2 l3 l4 l5 l6 l7 : Option Value} {v0 : Value} {x : Nat} {m : jmM} {Q : Option Value → jmM → Prop} : AW d 165 90 [some (.ref x), l1, l2, l3, l4, l5, l6, l7] [v0] m Q ↔ AW d 165 91 [some (.ref x), l1, l2, l3, l4, l5, l6, l7] [.ref x, v0] m Q := A_aload_n hB_X11_best dX11_best_90 rfl
theorem dX11_best_91 : decode cX11_best 91 = .ok (.getfield 56, 3) := by decide +kernel
theorem tX11_best_91 {d : Nat} {l0 l1 l2 l3 l4 l5 l6 l7 : Option Value} {v1 : Value} {a : Nat} {m : jmM} {Q : Option Value → jmM → Prop} : AW d 165 91 [l0, l1, l2, l3, l4, l5, l6, l7] [.ref a, v1] m Q ↔ (mS m a).1 = 11 ∧ AW d 165 94 [l0, l1, l2, l3, l4, l5, l6, l7] [va_rf (mR m a 8), v1] m Q := A_getfield (f := fun m a => va_rf (mR m a 8)) hB_X11_best dX11_best_91 hO_X11_best fF_11_56 rfl
theorem dX11_best_94 : decode cX11_best 94 = .ok (.invokevirtual 170, 3) := by decide +kernel
theorem tX11_best_94 {d : Nat} {l0 l1 l2 l3 l4 l5 l6 l7 : Option Value} {v1 : Value} {a : Nat} {m : jmM} {Q : Option Value → jmM → Prop} : AW d 165 94 [l0, l1, l2, l3, l4, l5, l6, l7] [.ref a, v1] m Q ↔ (mS m a).1 = 5 ∧ CC d 74 [.ref a] m (jK d 165 97 [l0, l1, l2, l3, l4, l5, l6, l7] [v1] Q) := A_callV hB_X11_best dX11_best_94 hO_X11_best fS_11_170 ⟨Nat.le_of_ble_eq_true rfl, Nat.le_of_ble_eq_true rfl⟩ rfl rfl rfl
theorem dX11_best_97 : decode cX11_best 97 = .ok (.aload_n 0, 1) := by decide +kernel
theorem tX11_best_97 {d : Nat} {l1 l2 l3 l4 l5 l6 l7 : Option Value} {v0 v1 : Value} {x : Nat} {m : jmM} {Q : Option Value → jmM → Prop} : AW d 165 97 [some (.ref x), l1, l2, l3, l4, l5, l6, l7] [v0, v1] m Q ↔ AW d 165 98 [some (.ref x), l1, l2, l3, l4, l5, l6, l7] [.ref x, v0, v1] m Q := A_aload_n hB_X11_best dX11_best_97 rfl
theorem dX11_best_98 : decode cX11_best 98 = .ok (.getfield 60, 3) := by decide +kernel
theorem tX11_best_98 {d : Nat} {l0 l1 l2 l3 l4 l5 l6 l7 : Option Value} {v1 v2 : Value} {a : Nat} {m : jmM} {Q : Option Value → jmM → Prop} : AW d 165 98 [l0, l1, l2, l3, l4, l5, l6, l7] [.ref a, v1, v2] m Q ↔ (mS m a).1 = 11 ∧ AW d 165 101 [l0, l1, l2, l3, l4, l5, l6, l7] [va_rf (mR m a 9), v1, v2] m Q := A_getfield (f := fun m a => va_rf (mR m a 9)) hB_X11_best dX11_best_98 hO_X11_best fF_11_60 rfl
theorem dX11_best_101 : decode cX11_best 101 = .ok (.invokevirtual 170, 3) := by decide +kernel
theorem tX11_best_101 {d : Nat} {l0 l1 l2 l3 l4 l5 l6 l7 : Option Value} {v1 v2 : Value} {a : Nat} {m : jmM} {Q : Option Value → jmM → Prop} : AW d 165 101 [l0, l1, l2, l3, l4, l5, l6, l7] [.ref a, v1, v2] m Q ↔ (mS m a).1 = 5 ∧ CC d 74 [.ref a] m (jK d 165 104 [l0, l1, l2, l3, l4, l5, l6, l7] [v1, v2] Q) := A_callV hB_X11_best dX11_best_101 hO_X11_best fS_11_170 ⟨Nat.le_of_ble_eq_true rfl, Nat.le_of_ble_eq_true rfl⟩ rfl rfl rfl
theorem dX11_best_104 : decode cX11_best 104 = .ok (.iconst 1, 1) := by decide +kernel
theorem tX11_best_104 {d : Nat} {l0 l1 l2 l3 l4 l5 l6 l7 : Option Value} {v0 v1 v2 : Value} {m : jmM} {Q : Option Value → jmM → Prop} : AW d 165 104 [l0, l1, l2, l3, l4, l5, l6, l7] [v0, v1, v2] m Q ↔ AW d 165 105 [l0, l1, l2, l3, l4, l5, l6, l7] [.int 1, v0, v1, v2] m Q := A_iconst hB_X11_best dX11_best_104 (by decide)
theorem dX11_best_105 : decode cX11_best 105 = .ok (.isub, 1) := by decide +kernel
theorem tX11_best_105 {d : Nat} {l0 l1 l2 l3 l4 l5 l6 l7 : Option Value} {v2 v3 : Value} {x y : Int32} {m : jmM} {Q : Option Value → jmM → Prop} : AW d 165 105 [l0, l1, l2, l3, l4, l5, l6, l7] [.int y, .int x, v2, v3] m Q ↔ AW d 165 106 [l0, l1, l2, l3, l4, l5, l6, l7] [.int (x - y), v2, v3] m Q := A_isub hB_X11_best dX11_best_105
theorem dX11_best_106 : decode cX11_best 106 = .ok (.invokevirtual 275, 3) := by decide +kernel
theorem tX11_best_106 {d : Nat} {l0 l1 l2 l3 l4 l5 l6 l7 : Option Value} {y0 y1 : Value} {a : Nat} {m : jmM} {Q : Option Value → jmM → Prop} : AW d 165 106 [l0, l1, l2, l3, l4, l5, l6, l7] [y0, y1, .ref a] m Q ↔ (mS m a).1 = 5 ∧ CC d 70 [.ref a, y1, y0] m (jK d 165 109 [l0, l1, l2, l3, l4, l5, l6, l7] [] Q) := A_callV hB_X11_best dX11_best_106 hO_X11_best fS_11_275 ⟨Nat.le_of_ble_eq_true rfl, Nat.le_of_ble_eq_true rfl⟩ rfl rfl rfl
theorem dX11_best_109 : decode cX11_best 109 = .ok (.istore 7, 2) := by decide +kernel
theorem tX11_best_109 {d : Nat} {l0 l1 l2 l3 l4 l5 l6 l7 : Option Value} {x : Int32} {m : jmM} {Q : Option Value → jmM → Prop} : AW d 165 109 [l0, l1, l2, l3, l4, l5, l6, l7] [.int x] m Q ↔ AW d 165 111 [l0, l1, l2, l3, l4, l5, jc1 l6, some (.int x)] [] m Q := A_istore hB_X11_best dX11_best_109 (Nat.le_of_ble_eq_true rfl) rfl
theorem dX11_best_111 : decode cX11_best 111 = .ok (.iload_n 2, 1) := by decide +kernel
theorem tX11_best_111 {d : Nat} {l0 l1 l3 l4 l5 l6 l7 : Option Value} {x : Int32} {m : jmM} {Q : Option Value → jmM → Prop} : AW d 165 111 [l0, l1, some (.int x), l3, l4, l5, l6, l7] [] m Q ↔ AW d 165 112 [l0, l1, some (.int x), l3, l4, l5, l6, l7] [.int x] m Q := A_iload_n hB_X11_best dX11_best_111 rfl
theorem dX11_best_112 : decode cX11_best 112 = .ok (.iconst (-1), 1) := by decide +kernel
theorem tX11_best_112 {d : Nat} {l0 l1 l2 l3 l4 l5 l6 l7 : Option Value} {v0 : Value} {m : jmM} {Q : Option Value → jmM → Prop} : AW d 165 112 [l0, l1, l2, l3, l4, l5, l6, l7] [v0] m Q ↔ AW d 165 113 [l0, l1, l2, l3, l4, l5, l6, l7] [.int (-1), v0] m Q := A_iconst hB_X11_best dX11_best_112 (by decide)
theorem dX11_best_113 : decode cX11_best 113 = .ok (.if_icmp .eq 22, 3) := by decide +kernel
theorem tX11_best_113 {d : Nat} {l0 l1 l2 l3 l4 l5 l6 l7 : Option Value} {x y : Int32} {m : jmM} {Q : Option Value → jmM → Prop} : AW d 165 113 [l0, l1, l2, l3, l4, l5, l6, l7] [.int y, .int x] m Q ↔ if x = y then AW d 165 135 [l0, l1, l2, l3, l4, l5, l6, l7] [] m Q else AW d 165 116 [l0, l1, l2, l3, l4, l5, l6, l7] [] m Q := A_icmp_eq hB_X11_best dX11_best_113 (by decide)
theorem dX11_best_116 : decode cX11_best 116 = .ok (.iload 6, 2) := by decide +kernel
theorem tX11_best_116 {d : Nat} {l0 l1 l2 l3 l4 l5 l7 : Option Value} {x : Int32} {m : jmM} {Q : Option Value → jmM → Prop} : AW d 165 116 [l0, l1, l2, l3, l4, l5, some (.int x), l7] [] m Q ↔ AW d 165 118 [l0, l1, l2, l3, l4, l5, some (.int x), l7] [.int x] m Q := A_iload hB_X11_best dX11_best_116 rfl
theorem dX11_best_118 : decode cX11_best 118 = .ok (.iload_n 3, 1) := by decide +kernel
theorem tX11_best_118 {d : Nat} {l0 l1 l2 l4 l5 l6 l7 : Option Value} {v0 : Value} {x : Int32} {m : jmM} {Q : Option Value → jmM → Prop} : AW d 165 118 [l0, l1, l2, some (.int x), l4, l5, l6, l7] [v0] m Q ↔ AW d 165 119 [l0, l1, l2, some (.int x), l4, l5, l6, l7] [.int x, v0] m Q := A_iload_n hB_X11_best dX11_best_118 rfl
theorem dX11_best_119 : decode cX11_best 119 = .ok (.if_icmp .lt 16, 3) := by decide +kernel
theorem tX11_best_119 {d : Nat} {l0 l1 l2 l3 l4 l5 l6 l7 : Option Value} {x y : Int32} {m : jmM} {Q : Option Value → jmM → Prop} : AW d 165 119 [l0, l1, l2, l3, l4, l5, l6, l7] [.int y, .int x] m Q ↔ if x < y then AW d 165 135 [l0, l1, l2, l3, l4, l5, l6, l7] [] m Q else AW d 165 122 [l0, l1, l2, l3, l4, l5, l6, l7] [] m Q := A_icmp_lt hB_X11_best dX11_best_119 (by decide)
theorem dX11_best_122 : decode cX11_best 122 = .ok (.iload 6, 2) := by decide +kernel
theorem tX11_best_122 {d : Nat} {l0 l1 l2 l3 l4 l5 l7 : Option Value} {x : Int32} {m : jmM} {Q : Option Value → jmM → Prop} : AW d 165 122 [l0, l1, l2, l3, l4, l5, some (.int x), l7] [] m Q ↔ AW d 165 124 [l0, l1, l2, l3, l4, l5, some (.int x), l7] [.int x] m Q := A_iload hB_X11_best dX11_best_122 rfl
theorem dX11_best_124 : decode cX11_best 124 = .ok (.iload_n 3, 1) := by decide +kernel
theorem tX11_best_124 {d : Nat} {l0 l1 l2 l4 l5 l6 l7 : Option Value} {v0 : Value} {x : Int32} {m : jmM} {Q : Option Value → jmM → Prop} : AW d 165 124 [l0, l1, l2, some (.int x), l4, l5, l6, l7] [v0] m Q ↔ AW d 165 125 [l0, l1, l2, some (.int x), l4, l5, l6, l7] [.int x, v0] m Q := A_iload_n hB_X11_best dX11_best_124 rfl
theorem dX11_best_125 : decode cX11_best 125 = .ok (.if_icmp .ne 20, 3) := by decide +kernel
theorem tX11_best_125 {d : Nat} {l0 l1 l2 l3 l4 l5 l6 l7 : Option Value} {x y : Int32} {m : jmM} {Q : Option Value → jmM → Prop} : AW d 165 125 [l0, l1, l2, l3, l4, l5, l6, l7] [.int y, .int x] m Q ↔ if x = y then AW d 165 128 [l0, l1, l2, l3, l4, l5, l6, l7] [] m Q else AW d 165 145 [l0, l1, l2, l3, l4, l5, l6, l7] [] m Q := A_icmp_ne hB_X11_best dX11_best_125 (by decide)
theorem dX11_best_128 : decode cX11_best 128 = .ok (.iload 7, 2) := by decide +kernel
theorem tX11_best_128 {d : Nat} {l0 l1 l2 l3 l4 l5 l6 : Option Value} {x : Int32} {m : jmM} {Q : Option Value → jmM → Prop} : AW d 165 128 [l0, l1, l2, l3, l4, l5, l6, some (.int x)] [] m Q ↔ AW d 165 130 [l0, l1, l2, l3, l4, l5, l6, some (.int x)] [.int x] m Q := A_iload hB_X11_best dX11_best_128 rfl
theorem dX11_best_130 : decode cX11_best 130 = .ok (.iload 4, 2) := by decide +kernel
theorem tX11_best_130 {d : Nat} {l0 l1 l2 l3 l5 l6 l7 : Option Value} {v0 : Value} {x : Int32} {m : jmM} {Q : Option Value → jmM → Prop} : AW d 165 130 [l0, l1, l2, l3, some (.int x), l5, l6, l7] [v0] m Q ↔ AW d 165 132 [l0, l1, l2, l3, some (.int x), l5, l6, l7] [.int x, v0] m Q := A_iload hB_X11_best dX11_best_130 rfl
theorem dX11_best_132 : decode cX11_best 132 = .ok (.if_icmp .ge 13, 3) := by decide +kernel
theorem tX11_best_132 {d : Nat} {l0 l1 l2 l3 l4 l5 l6 l7 : Option Value} {x y : Int32} {m : jmM} {Q : Option Value → jmM → Prop} : AW d 165 132 [l0, l1, l2, l3, l4, l5, l6, l7] [.int y, .int x] m Q ↔ if y ≤ x then AW d 165 145 [l0, l1, l2, l3, l4, l5, l6, l7] [] m Q else AW d 165 135 [l0, l1, l2, l3, l4, l5, l6, l7] [] m Q := A_icmp_ge hB_X11_best dX11_best_132 (by decide)
theorem dX11_best_135 : decode cX11_best 135 = .ok (.iload 5, 2) := by decide +kernel
theorem tX11_best_135 {d : Nat} {l0 l1 l2 l3 l4 l6 l7 : Option Value} {x : Int32} {m : jmM} {Q : Option Value → jmM → Prop} : AW d 165 135 [l0, l1, l2, l3, l4, some (.int x), l6, l7] [] m Q ↔ AW d 165 137 [l0, l1, l2, l3, l4, some (.int x), l6, l7] [.int x] m Q := A_iload hB_X11_best dX11_best_135 rfl
theorem dX11_best_137 : decode cX11_best 137 = .ok (.istore_n 2, 1) := by decide +kernel
theorem tX11_best_137 {d : Nat} {l0 l1 l2 l3 l4 l5 l6 l7 : Option Value} {x : Int32} {m : jmM} {Q : Option Value → jmM → Prop} : AW d 165 137 [l0, l1, l2, l3, l4, l5, l6, l7] [.int x] m Q ↔ AW d 165 138 [l0, jc1 l1, some (.int x), l3, l4, l5, l6, l7] [] m Q := A_istore_n hB_X11_best dX11_best_137 (Nat.le_of_ble_eq_true rfl) rfl
theorem dX11_best_138 : decode cX11_best 138 = .ok (.iload 6, 2) := by decide +kernel
theorem tX11_best_138 {d : Nat} {l0 l1 l2 l3 l4 l5 l7 : Option Value} {x : Int32} {m : jmM} {Q : Option Value → jmM → Prop} : AW d 165 138 [l0, l1, l2, l3, l4, l5, some (.int x), l7] [] m Q ↔ AW d 165 140 [l0, l1, l2, l3, l4, l5, some (.int x), l7] [.int x] m Q := A_iload hB_X11_best dX11_best_138 rfl
theorem dX11_best_140 : decode cX11_best 140 = .ok (.istore_n 3, 1) := by decide +kernel
theorem tX11_best_140 {d : Nat} {l0 l1 l2 l3 l4 l5 l6 l7 : Option Value} {x : Int32} {m : jmM} {Q : Option Value → jmM → Prop} : AW d 165 140 [l0, l1, l2, l3, l4, l5, l6, l7] [.int x] m Q ↔ AW d 165 141 [l0, l1, jc1 l2, some (.int x), l4, l5, l6, l7] [] m Q := A_istore_n hB_X11_best dX11_best_140 (Nat.le_of_ble_eq_true rfl) rfl
theorem dX11_best_141 : decode cX11_best 141 = .ok (.iload 7, 2) := by decide +kernel
theorem tX11_best_141 {d : Nat} {l0 l1 l2 l3 l4 l5 l6 : Option Value} {x : Int32} {m : jmM} {Q : Option Value → jmM → Prop} : AW d 165 141 [l0, l1, l2, l3, l4, l5, l6, some (.int x)] [] m Q ↔ AW d 165 143 [l0, l1, l2, l3, l4, l5, l6, some (.int x)] [.int x] m Q := A_iload hB_X11_best dX11_best_141 rfl
theorem dX11_best_143 : decode cX11_best 143 = .ok (.istore 4, 2) := by decide +kernel
theorem tX11_best_143 {d : Nat} {l0 l1 l2 l3 l4 l5 l6 l7 : Option Value} {x : Int32} {m : jmM} {Q : Option Value → jmM → Prop} : AW d 165 143 [l0, l1, l2, l3, l4, l5, l6, l7] [.int x] m Q ↔ AW d 165 145 [l0, l1, l2, jc1 l3, some (.int x), l5, l6, l7] [] m Q := A_istore hB_X11_best dX11_best_143 (Nat.le_of_ble_eq_true rfl) rfl
theorem dX11_best_145 : decode cX11_best 145 = .ok (.iinc 5 1, 3) := by decide +kernel
theorem tX11_best_145 {d : Nat} {l0 l1 l2 l3 l4 l6 l7 : Option Value} {x : Int32} {m : jmM} {Q : Option Value → jmM → Prop} : AW d 165 145 [l0, l1, l2, l3, l4, some (.int x), l6, l7] [] m Q ↔ AW d 165 148 [l0, l1, l2, l3, jc1 l4, some (.int (x + 1)), l6, l7] [] m Q := A_iinc hB_X11_best dX11_best_145 rfl (Nat.le_of_ble_eq_true rfl) (v := 1) (by decide) rfl
theorem dX11_best_148 : decode cX11_best 148 = .ok (.goto (-114), 3) := by decide +kernel
theorem tX11_best_148 {d : Nat} {l0 l1 l2 l3 l4 l5 l6 l7 : Option Value} {m : jmM} {Q : Option Value → jmM → Prop} : AW d 165 148 [l0, l1, l2, l3, l4, l5, l6, l7] [] m Q ↔ AW d 165 34 [l0, l1, l2, l3, l4, l5, l6, l7] [] m Q := A_goto hB_X11_best dX11_best_148 (by decide)
theorem dX11_best_151 : decode cX11_best 151 = .ok (.iload_n 2, 1) := by decide +kernel
theorem tX11_best_151 {d : Nat} {l0 l1 l3 l4 l5 l6 l7 : Option Value} {x : Int32} {m : jmM} {Q : Option Value → jmM → Prop} : AW d 165 151 [l0, l1, some (.int x), l3, l4, l5, l6, l7] [] m Q ↔ AW d 165 152 [l0, l1, some (.int x), l3, l4, l5, l6, l7] [.int x] m Q := A_iload_n hB_X11_best dX11_best_151 rfl
theorem dX11_best_152 : decode cX11_best 152 = .ok (.ireturn, 1) := by decide +kernel
theorem tX11_best_152 {d : Nat} {l0 l1 l2 l3 l4 l5 l6 l7 : Option Value} {x : Int32} {m : jmM} {Q : Option Value → jmM → Prop} : AW d 165 152 [l0, l1, l2, l3, l4, l5, l6, l7] [.int x] m Q ↔ Q (some (.int x)) m := A_ireturn hB_X11_best dX11_best_152 hR_X11_best
theorem hB_X11_slice : jB 166 = cX11_slice := rfl
theorem hO_X11_slice : jO 166 = 11 := rfl
theorem hR_X11_slice : jRt 166 = (some .int) := rfl
theorem nX11_slice (d : Nat) (x0 : Nat) (x1 : Int32) (x2 : Int32) (x3 : Int32) (x4 : Int32) (m : jmM) (Q : Option Value → jmM → Prop) : CC (d + 1) 166 [.ref x0, .int x1, .int x2, .int x3, .int x4] m Q ↔ AW d 166 0 [some (.ref x0), some (.int x1), some (.int x2), some (.int x3), some (.int x4)] [] m Q := CC_body (Nat.le_of_ble_eq_true rfl)
theorem dX11_slice_0 : decode cX11_slice 0 = .ok (.aload_n 0, 1) := by decide +kernel
theorem tX11_slice_0 {d : Nat} {l1 l2 l3 l4 : Option Value} {x : Nat} {m : jmM} {Q : Option Value → jmM → Prop} : AW d 166 0 [some (.ref x), l1, l2, l3, l4] [] m Q ↔ AW d 166 1 [some (.ref x), l1, l2, l3, l4] [.ref x] m Q := A_aload_n hB_X11_slice dX11_slice_0 rfl
theorem dX11_slice_1 : decode cX11_slice 1 = .ok (.getfield 88, 3) := by decide +kernel
theorem tX11_slice_1 {d : Nat} {l0 l1 l2 l3 l4 : Option Value} {a : Nat} {m : jmM} {Q : Option Value → jmM → Prop} : AW d 166 1 [l0, l1, l2, l3, l4] [.ref a] m Q ↔ (mS m a).1 = 11 ∧ AW d 166 4 [l0, l1, l2, l3, l4] [va_rf (mR m a 14)] m Q := A_getfield (f := fun m a => va_rf (mR m a 14)) hB_X11_slice dX11_slice_1 hO_X11_slice fF_11_88 rfl
theorem dX11_slice_4 : decode cX11_slice 4 = .ok (.invokevirtual 282, 3) := by decide +kernel
theorem tX11_slice_4 {d : Nat} {l0 l1 l2 l3 l4 : Option Value} {a : Nat} {m : jmM} {Q : Option Value → jmM → Prop} : AW d 166 4 [l0, l1, l2, l3, l4] [.ref a] m Q ↔ (mS m a).1 = 7 ∧ CC d 114 [.ref a] m (jK d 166 7 [l0, l1, l2, l3, l4] [] Q) := A_callV hB_X11_slice dX11_slice_4 hO_X11_slice fS_11_282 ⟨Nat.le_of_ble_eq_true rfl, Nat.le_of_ble_eq_true rfl⟩ rfl rfl rfl
theorem dX11_slice_7 : decode cX11_slice 7 = .ok (.ifCond .ne 21, 3) := by decide +kernel
theorem tX11_slice_7 {d : Nat} {l0 l1 l2 l3 l4 : Option Value} {x : Int32} {m : jmM} {Q : Option Value → jmM → Prop} : AW d 166 7 [l0, l1, l2, l3, l4] [.int x] m Q ↔ if x = 0 then AW d 166 10 [l0, l1, l2, l3, l4] [] m Q else AW d 166 28 [l0, l1, l2, l3, l4] [] m Q := A_if_ne hB_X11_slice dX11_slice_7 (by decide)
theorem dX11_slice_10 : decode cX11_slice 10 = .ok (.iload_n 1, 1) := by decide +kernel
theorem tX11_slice_10 {d : Nat} {l0 l2 l3 l4 : Option Value} {x : Int32} {m : jmM} {Q : Option Value → jmM → Prop} : AW d 166 10 [l0, some (.int x), l2, l3, l4] [] m Q ↔ AW d 166 11 [l0, some (.int x), l2, l3, l4] [.int x] m Q := A_iload_n hB_X11_slice dX11_slice_10 rfl
theorem dX11_slice_11 : decode cX11_slice 11 = .ok (.iconst 0, 1) := by decide +kernel
theorem tX11_slice_11 {d : Nat} {l0 l1 l2 l3 l4 : Option Value} {v0 : Value} {m : jmM} {Q : Option Value → jmM → Prop} : AW d 166 11 [l0, l1, l2, l3, l4] [v0] m Q ↔ AW d 166 12 [l0, l1, l2, l3, l4] [.int 0, v0] m Q := A_iconst hB_X11_slice dX11_slice_11 (by decide)
theorem dX11_slice_12 : decode cX11_slice 12 = .ok (.sipush 599, 3) := by decide +kernel
theorem tX11_slice_12 {d : Nat} {l0 l1 l2 l3 l4 : Option Value} {v0 v1 : Value} {m : jmM} {Q : Option Value → jmM → Prop} : AW d 166 12 [l0, l1, l2, l3, l4] [v0, v1] m Q ↔ AW d 166 15 [l0, l1, l2, l3, l4] [.int 599, v0, v1] m Q := A_sipush hB_X11_slice dX11_slice_12 rfl
theorem dX11_slice_15 : decode cX11_slice 15 = .ok (.invokestatic 128, 3) := by decide +kernel
theorem tX11_slice_15 {d : Nat} {l0 l1 l2 l3 l4 : Option Value} {y0 y1 y2 : Value} {m : jmM} {Q : Option Value → jmM → Prop} : AW d 166 15 [l0, l1, l2, l3, l4] [y0, y1, y2] m Q ↔ CC d 183 [y2, y1, y0] m (jK d 166 18 [l0, l1, l2, l3, l4] [] Q) := A_callS0 hB_X11_slice dX11_slice_15 hO_X11_slice fS_11_128 ⟨Nat.le_of_ble_eq_true rfl, Nat.le_of_ble_eq_true rfl⟩ rfl rfl
theorem dX11_slice_18 : decode cX11_slice 18 = .ok (.ifCond .eq 10, 3) := by decide +kernel
theorem tX11_slice_18 {d : Nat} {l0 l1 l2 l3 l4 : Option Value} {x : Int32} {m : jmM} {Q : Option Value → jmM → Prop} : AW d 166 18 [l0, l1, l2, l3, l4] [.int x] m Q ↔ if x = 0 then AW d 166 28 [l0, l1, l2, l3, l4] [] m Q else AW d 166 21 [l0, l1, l2, l3, l4] [] m Q := A_if_eq hB_X11_slice dX11_slice_18 (by decide)
theorem dX11_slice_21 : decode cX11_slice 21 = .ok (.iload_n 2, 1) := by decide +kernel
theorem tX11_slice_21 {d : Nat} {l0 l1 l3 l4 : Option Value} {x : Int32} {m : jmM} {Q : Option Value → jmM → Prop} : AW d 166 21 [l0, l1, some (.int x), l3, l4] [] m Q ↔ AW d 166 22 [l0, l1, some (.int x), l3, l4] [.int x] m Q := A_iload_n hB_X11_slice dX11_slice_21 rfl
theorem dX11_slice_22 : decode cX11_slice 22 = .ok (.invokestatic 123, 3) := by decide +kernel
theorem tX11_slice_22 {d : Nat} {l0 l1 l2 l3 l4 : Option Value} {y0 : Value} {m : jmM} {Q : Option Value → jmM → Prop} : AW d 166 22 [l0, l1, l2, l3, l4] [y0] m Q ↔ CC d 182 [y0] m (jK d 166 25 [l0, l1, l2, l3, l4] [] Q) := A_callS0 hB_X11_slice dX11_slice_22 hO_X11_slice fS_11_123 ⟨Nat.le_of_ble_eq_true rfl, Nat.le_of_ble_eq_true rfl⟩ rfl rfl
theorem dX11_slice_25 : decode cX11_slice 25 = .ok (.ifCond .ne 5, 3) := by decide +kernel
theorem tX11_slice_25 {d : Nat} {l0 l1 l2 l3 l4 : Option Value} {x : Int32} {m : jmM} {Q : Option Value → jmM → Prop} : AW d 166 25 [l0, l1, l2, l3, l4] [.int x] m Q ↔ if x = 0 then AW d 166 28 [l0, l1, l2, l3, l4] [] m Q else AW d 166 30 [l0, l1, l2, l3, l4] [] m Q := A_if_ne hB_X11_slice dX11_slice_25 (by decide)
theorem dX11_slice_28 : decode cX11_slice 28 = .ok (.iconst (-1), 1) := by decide +kernel
theorem tX11_slice_28 {d : Nat} {l0 l1 l2 l3 l4 : Option Value} {m : jmM} {Q : Option Value → jmM → Prop} : AW d 166 28 [l0, l1, l2, l3, l4] [] m Q ↔ AW d 166 29 [l0, l1, l2, l3, l4] [.int (-1)] m Q := A_iconst hB_X11_slice dX11_slice_28 (by decide)
theorem dX11_slice_29 : decode cX11_slice 29 = .ok (.ireturn, 1) := by decide +kernel
theorem tX11_slice_29 {d : Nat} {l0 l1 l2 l3 l4 : Option Value} {x : Int32} {m : jmM} {Q : Option Value → jmM → Prop} : AW d 166 29 [l0, l1, l2, l3, l4] [.int x] m Q ↔ Q (some (.int x)) m := A_ireturn hB_X11_slice dX11_slice_29 hR_X11_slice
theorem dX11_slice_30 : decode cX11_slice 30 = .ok (.iload_n 3, 1) := by decide +kernel
theorem tX11_slice_30 {d : Nat} {l0 l1 l2 l4 : Option Value} {x : Int32} {m : jmM} {Q : Option Value → jmM → Prop} : AW d 166 30 [l0, l1, l2, some (.int x), l4] [] m Q ↔ AW d 166 31 [l0, l1, l2, some (.int x), l4] [.int x] m Q := A_iload_n hB_X11_slice dX11_slice_30 rfl
theorem dX11_slice_31 : decode cX11_slice 31 = .ok (.iconst 0, 1) := by decide +kernel
theorem tX11_slice_31 {d : Nat} {l0 l1 l2 l3 l4 : Option Value} {v0 : Value} {m : jmM} {Q : Option Value → jmM → Prop} : AW d 166 31 [l0, l1, l2, l3, l4] [v0] m Q ↔ AW d 166 32 [l0, l1, l2, l3, l4] [.int 0, v0] m Q := A_iconst hB_X11_slice dX11_slice_31 (by decide)
theorem dX11_slice_32 : decode cX11_slice 32 = .ok (.ldc_w 286, 3) := by decide +kernel
theorem tX11_slice_32 {d : Nat} {l0 l1 l2 l3 l4 : Option Value} {v0 v1 : Value} {m : jmM} {Q : Option Value → jmM → Prop} : AW d 166 32 [l0, l1, l2, l3, l4] [v0, v1] m Q ↔ AW d 166 35 [l0, l1, l2, l3, l4] [.int 1000000000, v0, v1] m Q := A_ldc_w hB_X11_slice dX11_slice_32 hO_X11_slice fL_11_286
theorem dX11_slice_35 : decode cX11_slice 35 = .ok (.invokestatic 128, 3) := by decide +kernel
theorem tX11_slice_35 {d : Nat} {l0 l1 l2 l3 l4 : Option Value} {y0 y1 y2 : Value} {m : jmM} {Q : Option Value → jmM → Prop} : AW d 166 35 [l0, l1, l2, l3, l4] [y0, y1, y2] m Q ↔ CC d 183 [y2, y1, y0] m (jK d 166 38 [l0, l1, l2, l3, l4] [] Q) := A_callS0 hB_X11_slice dX11_slice_35 hO_X11_slice fS_11_128 ⟨Nat.le_of_ble_eq_true rfl, Nat.le_of_ble_eq_true rfl⟩ rfl rfl
theorem dX11_slice_38 : decode cX11_slice 38 = .ok (.ifCond .eq 15, 3) := by decide +kernel
theorem tX11_slice_38 {d : Nat} {l0 l1 l2 l3 l4 : Option Value} {x : Int32} {m : jmM} {Q : Option Value → jmM → Prop} : AW d 166 38 [l0, l1, l2, l3, l4] [.int x] m Q ↔ if x = 0 then AW d 166 53 [l0, l1, l2, l3, l4] [] m Q else AW d 166 41 [l0, l1, l2, l3, l4] [] m Q := A_if_eq hB_X11_slice dX11_slice_38 (by decide)
theorem dX11_slice_41 : decode cX11_slice 41 = .ok (.iload 4, 2) := by decide +kernel
theorem tX11_slice_41 {d : Nat} {l0 l1 l2 l3 : Option Value} {x : Int32} {m : jmM} {Q : Option Value → jmM → Prop} : AW d 166 41 [l0, l1, l2, l3, some (.int x)] [] m Q ↔ AW d 166 43 [l0, l1, l2, l3, some (.int x)] [.int x] m Q := A_iload hB_X11_slice dX11_slice_41 rfl
theorem dX11_slice_43 : decode cX11_slice 43 = .ok (.iconst 0, 1) := by decide +kernel
theorem tX11_slice_43 {d : Nat} {l0 l1 l2 l3 l4 : Option Value} {v0 : Value} {m : jmM} {Q : Option Value → jmM → Prop} : AW d 166 43 [l0, l1, l2, l3, l4] [v0] m Q ↔ AW d 166 44 [l0, l1, l2, l3, l4] [.int 0, v0] m Q := A_iconst hB_X11_slice dX11_slice_43 (by decide)
theorem dX11_slice_44 : decode cX11_slice 44 = .ok (.ldc_w 286, 3) := by decide +kernel
theorem tX11_slice_44 {d : Nat} {l0 l1 l2 l3 l4 : Option Value} {v0 v1 : Value} {m : jmM} {Q : Option Value → jmM → Prop} : AW d 166 44 [l0, l1, l2, l3, l4] [v0, v1] m Q ↔ AW d 166 47 [l0, l1, l2, l3, l4] [.int 1000000000, v0, v1] m Q := A_ldc_w hB_X11_slice dX11_slice_44 hO_X11_slice fL_11_286
theorem dX11_slice_47 : decode cX11_slice 47 = .ok (.invokestatic 128, 3) := by decide +kernel
theorem tX11_slice_47 {d : Nat} {l0 l1 l2 l3 l4 : Option Value} {y0 y1 y2 : Value} {m : jmM} {Q : Option Value → jmM → Prop} : AW d 166 47 [l0, l1, l2, l3, l4] [y0, y1, y2] m Q ↔ CC d 183 [y2, y1, y0] m (jK d 166 50 [l0, l1, l2, l3, l4] [] Q) := A_callS0 hB_X11_slice dX11_slice_47 hO_X11_slice fS_11_128 ⟨Nat.le_of_ble_eq_true rfl, Nat.le_of_ble_eq_true rfl⟩ rfl rfl
theorem dX11_slice_50 : decode cX11_slice 50 = .ok (.ifCond .ne 5, 3) := by decide +kernel
theorem tX11_slice_50 {d : Nat} {l0 l1 l2 l3 l4 : Option Value} {x : Int32} {m : jmM} {Q : Option Value → jmM → Prop} : AW d 166 50 [l0, l1, l2, l3, l4] [.int x] m Q ↔ if x = 0 then AW d 166 53 [l0, l1, l2, l3, l4] [] m Q else AW d 166 55 [l0, l1, l2, l3, l4] [] m Q := A_if_ne hB_X11_slice dX11_slice_50 (by decide)
theorem dX11_slice_53 : decode cX11_slice 53 = .ok (.iconst (-1), 1) := by decide +kernel
theorem tX11_slice_53 {d : Nat} {l0 l1 l2 l3 l4 : Option Value} {m : jmM} {Q : Option Value → jmM → Prop} : AW d 166 53 [l0, l1, l2, l3, l4] [] m Q ↔ AW d 166 54 [l0, l1, l2, l3, l4] [.int (-1)] m Q := A_iconst hB_X11_slice dX11_slice_53 (by decide)
theorem dX11_slice_54 : decode cX11_slice 54 = .ok (.ireturn, 1) := by decide +kernel
theorem tX11_slice_54 {d : Nat} {l0 l1 l2 l3 l4 : Option Value} {x : Int32} {m : jmM} {Q : Option Value → jmM → Prop} : AW d 166 54 [l0, l1, l2, l3, l4] [.int x] m Q ↔ Q (some (.int x)) m := A_ireturn hB_X11_slice dX11_slice_54 hR_X11_slice
theorem dX11_slice_55 : decode cX11_slice 55 = .ok (.aload_n 0, 1) := by decide +kernel
theorem tX11_slice_55 {d : Nat} {l1 l2 l3 l4 : Option Value} {x : Nat} {m : jmM} {Q : Option Value → jmM → Prop} : AW d 166 55 [some (.ref x), l1, l2, l3, l4] [] m Q ↔ AW d 166 56 [some (.ref x), l1, l2, l3, l4] [.ref x] m Q := A_aload_n hB_X11_slice dX11_slice_55 rfl
theorem dX11_slice_56 : decode cX11_slice 56 = .ok (.getfield 88, 3) := by decide +kernel
theorem tX11_slice_56 {d : Nat} {l0 l1 l2 l3 l4 : Option Value} {a : Nat} {m : jmM} {Q : Option Value → jmM → Prop} : AW d 166 56 [l0, l1, l2, l3, l4] [.ref a] m Q ↔ (mS m a).1 = 11 ∧ AW d 166 59 [l0, l1, l2, l3, l4] [va_rf (mR m a 14)] m Q := A_getfield (f := fun m a => va_rf (mR m a 14)) hB_X11_slice dX11_slice_56 hO_X11_slice fF_11_88 rfl
theorem dX11_slice_59 : decode cX11_slice 59 = .ok (.iload_n 1, 1) := by decide +kernel
theorem tX11_slice_59 {d : Nat} {l0 l2 l3 l4 : Option Value} {v0 : Value} {x : Int32} {m : jmM} {Q : Option Value → jmM → Prop} : AW d 166 59 [l0, some (.int x), l2, l3, l4] [v0] m Q ↔ AW d 166 60 [l0, some (.int x), l2, l3, l4] [.int x, v0] m Q := A_iload_n hB_X11_slice dX11_slice_59 rfl
theorem dX11_slice_60 : decode cX11_slice 60 = .ok (.iload_n 2, 1) := by decide +kernel
theorem tX11_slice_60 {d : Nat} {l0 l1 l3 l4 : Option Value} {v0 v1 : Value} {x : Int32} {m : jmM} {Q : Option Value → jmM → Prop} : AW d 166 60 [l0, l1, some (.int x), l3, l4] [v0, v1] m Q ↔ AW d 166 61 [l0, l1, some (.int x), l3, l4] [.int x, v0, v1] m Q := A_iload_n hB_X11_slice dX11_slice_60 rfl
theorem dX11_slice_61 : decode cX11_slice 61 = .ok (.iload_n 3, 1) := by decide +kernel
theorem tX11_slice_61 {d : Nat} {l0 l1 l2 l4 : Option Value} {v0 v1 v2 : Value} {x : Int32} {m : jmM} {Q : Option Value → jmM → Prop} : AW d 166 61 [l0, l1, l2, some (.int x), l4] [v0, v1, v2] m Q ↔ AW d 166 62 [l0, l1, l2, some (.int x), l4] [.int x, v0, v1, v2] m Q := A_iload_n hB_X11_slice dX11_slice_61 rfl
theorem dX11_slice_62 : decode cX11_slice 62 = .ok (.iload 4, 2) := by decide +kernel
theorem tX11_slice_62 {d : Nat} {l0 l1 l2 l3 : Option Value} {v0 v1 v2 v3 : Value} {x : Int32} {m : jmM} {Q : Option Value → jmM → Prop} : AW d 166 62 [l0, l1, l2, l3, some (.int x)] [v0, v1, v2, v3] m Q ↔ AW d 166 64 [l0, l1, l2, l3, some (.int x)] [.int x, v0, v1, v2, v3] m Q := A_iload hB_X11_slice dX11_slice_62 rfl
theorem dX11_slice_64 : decode cX11_slice 64 = .ok (.invokevirtual 287, 3) := by decide +kernel
theorem tX11_slice_64 {d : Nat} {l0 l1 l2 l3 l4 : Option Value} {y0 y1 y2 y3 : Value} {a : Nat} {m : jmM} {Q : Option Value → jmM → Prop} : AW d 166 64 [l0, l1, l2, l3, l4] [y0, y1, y2, y3, .ref a] m Q ↔ (mS m a).1 = 7 ∧ CC d 115 [.ref a, y3, y2, y1, y0] m (jK d 166 67 [l0, l1, l2, l3, l4] [] Q) := A_callV hB_X11_slice dX11_slice_64 hO_X11_slice fS_11_287 ⟨Nat.le_of_ble_eq_true rfl, Nat.le_of_ble_eq_true rfl⟩ rfl rfl rfl
theorem dX11_slice_67 : decode cX11_slice 67 = .ok (.aload_n 0, 1) := by decide +kernel
theorem tX11_slice_67 {d : Nat} {l1 l2 l3 l4 : Option Value} {x : Nat} {m : jmM} {Q : Option Value → jmM → Prop} : AW d 166 67 [some (.ref x), l1, l2, l3, l4] [] m Q ↔ AW d 166 68 [some (.ref x), l1, l2, l3, l4] [.ref x] m Q := A_aload_n hB_X11_slice dX11_slice_67 rfl
theorem dX11_slice_68 : decode cX11_slice 68 = .ok (.getfield 88, 3) := by decide +kernel
theorem tX11_slice_68 {d : Nat} {l0 l1 l2 l3 l4 : Option Value} {a : Nat} {m : jmM} {Q : Option Value → jmM → Prop} : AW d 166 68 [l0, l1, l2, l3, l4] [.ref a] m Q ↔ (mS m a).1 = 11 ∧ AW d 166 71 [l0, l1, l2, l3, l4] [va_rf (mR m a 14)] m Q := A_getfield (f := fun m a => va_rf (mR m a 14)) hB_X11_slice dX11_slice_68 hO_X11_slice fF_11_88 rfl
theorem dX11_slice_71 : decode cX11_slice 71 = .ok (.invokevirtual 192, 3) := by decide +kernel
theorem tX11_slice_71 {d : Nat} {l0 l1 l2 l3 l4 : Option Value} {a : Nat} {m : jmM} {Q : Option Value → jmM → Prop} : AW d 166 71 [l0, l1, l2, l3, l4] [.ref a] m Q ↔ (mS m a).1 = 7 ∧ CC d 113 [.ref a] m (jK d 166 74 [l0, l1, l2, l3, l4] [] Q) := A_callV hB_X11_slice dX11_slice_71 hO_X11_slice fS_11_192 ⟨Nat.le_of_ble_eq_true rfl, Nat.le_of_ble_eq_true rfl⟩ rfl rfl rfl
theorem dX11_slice_74 : decode cX11_slice 74 = .ok (.ireturn, 1) := by decide +kernel
theorem tX11_slice_74 {d : Nat} {l0 l1 l2 l3 l4 : Option Value} {x : Int32} {m : jmM} {Q : Option Value → jmM → Prop} : AW d 166 74 [l0, l1, l2, l3, l4] [.int x] m Q ↔ Q (some (.int x)) m := A_ireturn hB_X11_slice dX11_slice_74 hR_X11_slice
theorem hB_X11_span : jB 167 = cX11_span := rfl
theorem hO_X11_span : jO 167 = 11 := rfl
theorem hR_X11_span : jRt 167 = (some .int) := rfl
theorem nX11_span (d : Nat) (x0 : Nat) (x1 : Int32) (x2 : Int32) (m : jmM) (Q : Option Value → jmM → Prop) : CC (d + 1) 167 [.ref x0, .int x1, .int x2] m Q ↔ AW d 167 0 [some (.ref x0), some (.int x1), some (.int x2), none, none, none, none] [] m Q := CC_body (Nat.le_of_ble_eq_true rfl)
theorem dX11_span_0 : decode cX11_span 0 = .ok (.aload_n 0, 1) := by decide +kernel
theorem tX11_span_0 {d : Nat} {l1 l2 l3 l4 l5 l6 : Option Value} {x : Nat} {m : jmM} {Q : Option Value → jmM → Prop} : AW d 167 0 [some (.ref x), l1, l2, l3, l4, l5, l6] [] m Q ↔ AW d 167 1 [some (.ref x), l1, l2, l3, l4, l5, l6] [.ref x] m Q := A_aload_n hB_X11_span dX11_span_0 rfl
theorem dX11_span_1 : decode cX11_span 1 = .ok (.getfield 56, 3) := by decide +kernel
theorem tX11_span_1 {d : Nat} {l0 l1 l2 l3 l4 l5 l6 : Option Value} {a : Nat} {m : jmM} {Q : Option Value → jmM → Prop} : AW d 167 1 [l0, l1, l2, l3, l4, l5, l6] [.ref a] m Q ↔ (mS m a).1 = 11 ∧ AW d 167 4 [l0, l1, l2, l3, l4, l5, l6] [va_rf (mR m a 8)] m Q := A_getfield (f := fun m a => va_rf (mR m a 8)) hB_X11_span dX11_span_1 hO_X11_span fF_11_56 rfl
theorem dX11_span_4 : decode cX11_span 4 = .ok (.invokevirtual 159, 3) := by decide +kernel
theorem tX11_span_4 {d : Nat} {l0 l1 l2 l3 l4 l5 l6 : Option Value} {a : Nat} {m : jmM} {Q : Option Value → jmM → Prop} : AW d 167 4 [l0, l1, l2, l3, l4, l5, l6] [.ref a] m Q ↔ (mS m a).1 = 5 ∧ CC d 73 [.ref a] m (jK d 167 7 [l0, l1, l2, l3, l4, l5, l6] [] Q) := A_callV hB_X11_span dX11_span_4 hO_X11_span fS_11_159 ⟨Nat.le_of_ble_eq_true rfl, Nat.le_of_ble_eq_true rfl⟩ rfl rfl rfl
theorem dX11_span_7 : decode cX11_span 7 = .ok (.ifCond .eq 19, 3) := by decide +kernel
theorem tX11_span_7 {d : Nat} {l0 l1 l2 l3 l4 l5 l6 : Option Value} {x : Int32} {m : jmM} {Q : Option Value → jmM → Prop} : AW d 167 7 [l0, l1, l2, l3, l4, l5, l6] [.int x] m Q ↔ if x = 0 then AW d 167 26 [l0, l1, l2, l3, l4, l5, l6] [] m Q else AW d 167 10 [l0, l1, l2, l3, l4, l5, l6] [] m Q := A_if_eq hB_X11_span dX11_span_7 (by decide)
theorem dX11_span_10 : decode cX11_span 10 = .ok (.iload_n 1, 1) := by decide +kernel
theorem tX11_span_10 {d : Nat} {l0 l2 l3 l4 l5 l6 : Option Value} {x : Int32} {m : jmM} {Q : Option Value → jmM → Prop} : AW d 167 10 [l0, some (.int x), l2, l3, l4, l5, l6] [] m Q ↔ AW d 167 11 [l0, some (.int x), l2, l3, l4, l5, l6] [.int x] m Q := A_iload_n hB_X11_span dX11_span_10 rfl
theorem dX11_span_11 : decode cX11_span 11 = .ok (.invokestatic 123, 3) := by decide +kernel
theorem tX11_span_11 {d : Nat} {l0 l1 l2 l3 l4 l5 l6 : Option Value} {y0 : Value} {m : jmM} {Q : Option Value → jmM → Prop} : AW d 167 11 [l0, l1, l2, l3, l4, l5, l6] [y0] m Q ↔ CC d 182 [y0] m (jK d 167 14 [l0, l1, l2, l3, l4, l5, l6] [] Q) := A_callS0 hB_X11_span dX11_span_11 hO_X11_span fS_11_123 ⟨Nat.le_of_ble_eq_true rfl, Nat.le_of_ble_eq_true rfl⟩ rfl rfl
theorem dX11_span_14 : decode cX11_span 14 = .ok (.ifCond .eq 12, 3) := by decide +kernel
theorem tX11_span_14 {d : Nat} {l0 l1 l2 l3 l4 l5 l6 : Option Value} {x : Int32} {m : jmM} {Q : Option Value → jmM → Prop} : AW d 167 14 [l0, l1, l2, l3, l4, l5, l6] [.int x] m Q ↔ if x = 0 then AW d 167 26 [l0, l1, l2, l3, l4, l5, l6] [] m Q else AW d 167 17 [l0, l1, l2, l3, l4, l5, l6] [] m Q := A_if_eq hB_X11_span dX11_span_14 (by decide)
theorem dX11_span_17 : decode cX11_span 17 = .ok (.iload_n 2, 1) := by decide +kernel
theorem tX11_span_17 {d : Nat} {l0 l1 l3 l4 l5 l6 : Option Value} {x : Int32} {m : jmM} {Q : Option Value → jmM → Prop} : AW d 167 17 [l0, l1, some (.int x), l3, l4, l5, l6] [] m Q ↔ AW d 167 18 [l0, l1, some (.int x), l3, l4, l5, l6] [.int x] m Q := A_iload_n hB_X11_span dX11_span_17 rfl
theorem dX11_span_18 : decode cX11_span 18 = .ok (.iconst 0, 1) := by decide +kernel
theorem tX11_span_18 {d : Nat} {l0 l1 l2 l3 l4 l5 l6 : Option Value} {v0 : Value} {m : jmM} {Q : Option Value → jmM → Prop} : AW d 167 18 [l0, l1, l2, l3, l4, l5, l6] [v0] m Q ↔ AW d 167 19 [l0, l1, l2, l3, l4, l5, l6] [.int 0, v0] m Q := A_iconst hB_X11_span dX11_span_18 (by decide)
theorem dX11_span_19 : decode cX11_span 19 = .ok (.iconst 2, 1) := by decide +kernel
theorem tX11_span_19 {d : Nat} {l0 l1 l2 l3 l4 l5 l6 : Option Value} {v0 v1 : Value} {m : jmM} {Q : Option Value → jmM → Prop} : AW d 167 19 [l0, l1, l2, l3, l4, l5, l6] [v0, v1] m Q ↔ AW d 167 20 [l0, l1, l2, l3, l4, l5, l6] [.int 2, v0, v1] m Q := A_iconst hB_X11_span dX11_span_19 (by decide)
theorem dX11_span_20 : decode cX11_span 20 = .ok (.invokestatic 128, 3) := by decide +kernel
theorem tX11_span_20 {d : Nat} {l0 l1 l2 l3 l4 l5 l6 : Option Value} {y0 y1 y2 : Value} {m : jmM} {Q : Option Value → jmM → Prop} : AW d 167 20 [l0, l1, l2, l3, l4, l5, l6] [y0, y1, y2] m Q ↔ CC d 183 [y2, y1, y0] m (jK d 167 23 [l0, l1, l2, l3, l4, l5, l6] [] Q) := A_callS0 hB_X11_span dX11_span_20 hO_X11_span fS_11_128 ⟨Nat.le_of_ble_eq_true rfl, Nat.le_of_ble_eq_true rfl⟩ rfl rfl
theorem dX11_span_23 : decode cX11_span 23 = .ok (.ifCond .ne 5, 3) := by decide +kernel
theorem tX11_span_23 {d : Nat} {l0 l1 l2 l3 l4 l5 l6 : Option Value} {x : Int32} {m : jmM} {Q : Option Value → jmM → Prop} : AW d 167 23 [l0, l1, l2, l3, l4, l5, l6] [.int x] m Q ↔ if x = 0 then AW d 167 26 [l0, l1, l2, l3, l4, l5, l6] [] m Q else AW d 167 28 [l0, l1, l2, l3, l4, l5, l6] [] m Q := A_if_ne hB_X11_span dX11_span_23 (by decide)
theorem dX11_span_26 : decode cX11_span 26 = .ok (.iconst (-1), 1) := by decide +kernel
theorem tX11_span_26 {d : Nat} {l0 l1 l2 l3 l4 l5 l6 : Option Value} {m : jmM} {Q : Option Value → jmM → Prop} : AW d 167 26 [l0, l1, l2, l3, l4, l5, l6] [] m Q ↔ AW d 167 27 [l0, l1, l2, l3, l4, l5, l6] [.int (-1)] m Q := A_iconst hB_X11_span dX11_span_26 (by decide)
theorem dX11_span_27 : decode cX11_span 27 = .ok (.ireturn, 1) := by decide +kernel
theorem tX11_span_27 {d : Nat} {l0 l1 l2 l3 l4 l5 l6 : Option Value} {x : Int32} {m : jmM} {Q : Option Value → jmM → Prop} : AW d 167 27 [l0, l1, l2, l3, l4, l5, l6] [.int x] m Q ↔ Q (some (.int x)) m := A_ireturn hB_X11_span dX11_span_27 hR_X11_span
theorem dX11_span_28 : decode cX11_span 28 = .ok (.bipush (-2), 2) := by decide +kernel
theorem tX11_span_28 {d : Nat} {l0 l1 l2 l3 l4 l5 l6 : Option Value} {m : jmM} {Q : Option Value → jmM → Prop} : AW d 167 28 [l0, l1, l2, l3, l4, l5, l6] [] m Q ↔ AW d 167 30 [l0, l1, l2, l3, l4, l5, l6] [.int (-2)] m Q := A_bipush hB_X11_span dX11_span_28 rfl
theorem dX11_span_30 : decode cX11_span 30 = .ok (.istore_n 3, 1) := by decide +kernel
theorem tX11_span_30 {d : Nat} {l0 l1 l2 l3 l4 l5 l6 : Option Value} {x : Int32} {m : jmM} {Q : Option Value → jmM → Prop} : AW d 167 30 [l0, l1, l2, l3, l4, l5, l6] [.int x] m Q ↔ AW d 167 31 [l0, l1, jc1 l2, some (.int x), l4, l5, l6] [] m Q := A_istore_n hB_X11_span dX11_span_30 (Nat.le_of_ble_eq_true rfl) rfl
theorem dX11_span_31 : decode cX11_span 31 = .ok (.bipush (-2), 2) := by decide +kernel
theorem tX11_span_31 {d : Nat} {l0 l1 l2 l3 l4 l5 l6 : Option Value} {m : jmM} {Q : Option Value → jmM → Prop} : AW d 167 31 [l0, l1, l2, l3, l4, l5, l6] [] m Q ↔ AW d 167 33 [l0, l1, l2, l3, l4, l5, l6] [.int (-2)] m Q := A_bipush hB_X11_span dX11_span_31 rfl
theorem dX11_span_33 : decode cX11_span 33 = .ok (.istore 4, 2) := by decide +kernel
theorem tX11_span_33 {d : Nat} {l0 l1 l2 l3 l4 l5 l6 : Option Value} {x : Int32} {m : jmM} {Q : Option Value → jmM → Prop} : AW d 167 33 [l0, l1, l2, l3, l4, l5, l6] [.int x] m Q ↔ AW d 167 35 [l0, l1, l2, jc1 l3, some (.int x), l5, l6] [] m Q := A_istore hB_X11_span dX11_span_33 (Nat.le_of_ble_eq_true rfl) rfl
theorem dX11_span_35 : decode cX11_span 35 = .ok (.iconst 0, 1) := by decide +kernel
theorem tX11_span_35 {d : Nat} {l0 l1 l2 l3 l4 l5 l6 : Option Value} {m : jmM} {Q : Option Value → jmM → Prop} : AW d 167 35 [l0, l1, l2, l3, l4, l5, l6] [] m Q ↔ AW d 167 36 [l0, l1, l2, l3, l4, l5, l6] [.int 0] m Q := A_iconst hB_X11_span dX11_span_35 (by decide)
theorem dX11_span_36 : decode cX11_span 36 = .ok (.istore 5, 2) := by decide +kernel
theorem tX11_span_36 {d : Nat} {l0 l1 l2 l3 l4 l5 l6 : Option Value} {x : Int32} {m : jmM} {Q : Option Value → jmM → Prop} : AW d 167 36 [l0, l1, l2, l3, l4, l5, l6] [.int x] m Q ↔ AW d 167 38 [l0, l1, l2, l3, jc1 l4, some (.int x), l6] [] m Q := A_istore hB_X11_span dX11_span_36 (Nat.le_of_ble_eq_true rfl) rfl
theorem dX11_span_38 : decode cX11_span 38 = .ok (.aload_n 0, 1) := by decide +kernel
theorem tX11_span_38 {d : Nat} {l1 l2 l3 l4 l5 l6 : Option Value} {x : Nat} {m : jmM} {Q : Option Value → jmM → Prop} : AW d 167 38 [some (.ref x), l1, l2, l3, l4, l5, l6] [] m Q ↔ AW d 167 39 [some (.ref x), l1, l2, l3, l4, l5, l6] [.ref x] m Q := A_aload_n hB_X11_span dX11_span_38 rfl
theorem dX11_span_39 : decode cX11_span 39 = .ok (.getfield 88, 3) := by decide +kernel
theorem tX11_span_39 {d : Nat} {l0 l1 l2 l3 l4 l5 l6 : Option Value} {a : Nat} {m : jmM} {Q : Option Value → jmM → Prop} : AW d 167 39 [l0, l1, l2, l3, l4, l5, l6] [.ref a] m Q ↔ (mS m a).1 = 11 ∧ AW d 167 42 [l0, l1, l2, l3, l4, l5, l6] [va_rf (mR m a 14)] m Q := A_getfield (f := fun m a => va_rf (mR m a 14)) hB_X11_span dX11_span_39 hO_X11_span fF_11_88 rfl
theorem dX11_span_42 : decode cX11_span 42 = .ok (.iload_n 1, 1) := by decide +kernel
theorem tX11_span_42 {d : Nat} {l0 l2 l3 l4 l5 l6 : Option Value} {v0 : Value} {x : Int32} {m : jmM} {Q : Option Value → jmM → Prop} : AW d 167 42 [l0, some (.int x), l2, l3, l4, l5, l6] [v0] m Q ↔ AW d 167 43 [l0, some (.int x), l2, l3, l4, l5, l6] [.int x, v0] m Q := A_iload_n hB_X11_span dX11_span_42 rfl
theorem dX11_span_43 : decode cX11_span 43 = .ok (.aload_n 0, 1) := by decide +kernel
theorem tX11_span_43 {d : Nat} {l1 l2 l3 l4 l5 l6 : Option Value} {v0 v1 : Value} {x : Nat} {m : jmM} {Q : Option Value → jmM → Prop} : AW d 167 43 [some (.ref x), l1, l2, l3, l4, l5, l6] [v0, v1] m Q ↔ AW d 167 44 [some (.ref x), l1, l2, l3, l4, l5, l6] [.ref x, v0, v1] m Q := A_aload_n hB_X11_span dX11_span_43 rfl
theorem dX11_span_44 : decode cX11_span 44 = .ok (.getfield 56, 3) := by decide +kernel
theorem tX11_span_44 {d : Nat} {l0 l1 l2 l3 l4 l5 l6 : Option Value} {v1 v2 : Value} {a : Nat} {m : jmM} {Q : Option Value → jmM → Prop} : AW d 167 44 [l0, l1, l2, l3, l4, l5, l6] [.ref a, v1, v2] m Q ↔ (mS m a).1 = 11 ∧ AW d 167 47 [l0, l1, l2, l3, l4, l5, l6] [va_rf (mR m a 8), v1, v2] m Q := A_getfield (f := fun m a => va_rf (mR m a 8)) hB_X11_span dX11_span_44 hO_X11_span fF_11_56 rfl
theorem dX11_span_47 : decode cX11_span 47 = .ok (.invokevirtual 170, 3) := by decide +kernel
theorem tX11_span_47 {d : Nat} {l0 l1 l2 l3 l4 l5 l6 : Option Value} {v1 v2 : Value} {a : Nat} {m : jmM} {Q : Option Value → jmM → Prop} : AW d 167 47 [l0, l1, l2, l3, l4, l5, l6] [.ref a, v1, v2] m Q ↔ (mS m a).1 = 5 ∧ CC d 74 [.ref a] m (jK d 167 50 [l0, l1, l2, l3, l4, l5, l6] [v1, v2] Q) := A_callV hB_X11_span dX11_span_47 hO_X11_span fS_11_170 ⟨Nat.le_of_ble_eq_true rfl, Nat.le_of_ble_eq_true rfl⟩ rfl rfl rfl
theorem dX11_span_50 : decode cX11_span 50 = .ok (.invokevirtual 290, 3) := by decide +kernel
theorem tX11_span_50 {d : Nat} {l0 l1 l2 l3 l4 l5 l6 : Option Value} {y0 y1 : Value} {a : Nat} {m : jmM} {Q : Option Value → jmM → Prop} : AW d 167 50 [l0, l1, l2, l3, l4, l5, l6] [y0, y1, .ref a] m Q ↔ (mS m a).1 = 7 ∧ CC d 116 [.ref a, y1, y0] m (jK d 167 53 [l0, l1, l2, l3, l4, l5, l6] [] Q) := A_callV hB_X11_span dX11_span_50 hO_X11_span fS_11_290 ⟨Nat.le_of_ble_eq_true rfl, Nat.le_of_ble_eq_true rfl⟩ rfl rfl rfl
theorem dX11_span_53 : decode cX11_span 53 = .ok (.iconst 0, 1) := by decide +kernel
theorem tX11_span_53 {d : Nat} {l0 l1 l2 l3 l4 l5 l6 : Option Value} {m : jmM} {Q : Option Value → jmM → Prop} : AW d 167 53 [l0, l1, l2, l3, l4, l5, l6] [] m Q ↔ AW d 167 54 [l0, l1, l2, l3, l4, l5, l6] [.int 0] m Q := A_iconst hB_X11_span dX11_span_53 (by decide)
theorem dX11_span_54 : decode cX11_span 54 = .ok (.istore 6, 2) := by decide +kernel
theorem tX11_span_54 {d : Nat} {l0 l1 l2 l3 l4 l5 l6 : Option Value} {x : Int32} {m : jmM} {Q : Option Value → jmM → Prop} : AW d 167 54 [l0, l1, l2, l3, l4, l5, l6] [.int x] m Q ↔ AW d 167 56 [l0, l1, l2, l3, l4, jc1 l5, some (.int x)] [] m Q := A_istore hB_X11_span dX11_span_54 (Nat.le_of_ble_eq_true rfl) rfl
theorem dX11_span_56 : decode cX11_span 56 = .ok (.iload 6, 2) := by decide +kernel
theorem tX11_span_56 {d : Nat} {l0 l1 l2 l3 l4 l5 : Option Value} {x : Int32} {m : jmM} {Q : Option Value → jmM → Prop} : AW d 167 56 [l0, l1, l2, l3, l4, l5, some (.int x)] [] m Q ↔ AW d 167 58 [l0, l1, l2, l3, l4, l5, some (.int x)] [.int x] m Q := A_iload hB_X11_span dX11_span_56 rfl
theorem dX11_span_58 : decode cX11_span 58 = .ok (.sipush 2000, 3) := by decide +kernel
theorem tX11_span_58 {d : Nat} {l0 l1 l2 l3 l4 l5 l6 : Option Value} {v0 : Value} {m : jmM} {Q : Option Value → jmM → Prop} : AW d 167 58 [l0, l1, l2, l3, l4, l5, l6] [v0] m Q ↔ AW d 167 61 [l0, l1, l2, l3, l4, l5, l6] [.int 2000, v0] m Q := A_sipush hB_X11_span dX11_span_58 rfl
theorem dX11_span_61 : decode cX11_span 61 = .ok (.if_icmp .gt 68, 3) := by decide +kernel
theorem tX11_span_61 {d : Nat} {l0 l1 l2 l3 l4 l5 l6 : Option Value} {x y : Int32} {m : jmM} {Q : Option Value → jmM → Prop} : AW d 167 61 [l0, l1, l2, l3, l4, l5, l6] [.int y, .int x] m Q ↔ if y < x then AW d 167 129 [l0, l1, l2, l3, l4, l5, l6] [] m Q else AW d 167 64 [l0, l1, l2, l3, l4, l5, l6] [] m Q := A_icmp_gt hB_X11_span dX11_span_61 (by decide)
theorem dX11_span_64 : decode cX11_span 64 = .ok (.aload_n 0, 1) := by decide +kernel
theorem tX11_span_64 {d : Nat} {l1 l2 l3 l4 l5 l6 : Option Value} {x : Nat} {m : jmM} {Q : Option Value → jmM → Prop} : AW d 167 64 [some (.ref x), l1, l2, l3, l4, l5, l6] [] m Q ↔ AW d 167 65 [some (.ref x), l1, l2, l3, l4, l5, l6] [.ref x] m Q := A_aload_n hB_X11_span dX11_span_64 rfl
theorem dX11_span_65 : decode cX11_span 65 = .ok (.getfield 56, 3) := by decide +kernel
theorem tX11_span_65 {d : Nat} {l0 l1 l2 l3 l4 l5 l6 : Option Value} {a : Nat} {m : jmM} {Q : Option Value → jmM → Prop} : AW d 167 65 [l0, l1, l2, l3, l4, l5, l6] [.ref a] m Q ↔ (mS m a).1 = 11 ∧ AW d 167 68 [l0, l1, l2, l3, l4, l5, l6] [va_rf (mR m a 8)] m Q := A_getfield (f := fun m a => va_rf (mR m a 8)) hB_X11_span dX11_span_65 hO_X11_span fF_11_56 rfl
theorem dX11_span_68 : decode cX11_span 68 = .ok (.iload_n 1, 1) := by decide +kernel
theorem tX11_span_68 {d : Nat} {l0 l2 l3 l4 l5 l6 : Option Value} {v0 : Value} {x : Int32} {m : jmM} {Q : Option Value → jmM → Prop} : AW d 167 68 [l0, some (.int x), l2, l3, l4, l5, l6] [v0] m Q ↔ AW d 167 69 [l0, some (.int x), l2, l3, l4, l5, l6] [.int x, v0] m Q := A_iload_n hB_X11_span dX11_span_68 rfl
theorem dX11_span_69 : decode cX11_span 69 = .ok (.aload_n 0, 1) := by decide +kernel
theorem tX11_span_69 {d : Nat} {l1 l2 l3 l4 l5 l6 : Option Value} {v0 v1 : Value} {x : Nat} {m : jmM} {Q : Option Value → jmM → Prop} : AW d 167 69 [some (.ref x), l1, l2, l3, l4, l5, l6] [v0, v1] m Q ↔ AW d 167 70 [some (.ref x), l1, l2, l3, l4, l5, l6] [.ref x, v0, v1] m Q := A_aload_n hB_X11_span dX11_span_69 rfl
theorem dX11_span_70 : decode cX11_span 70 = .ok (.getfield 56, 3) := by decide +kernel
theorem tX11_span_70 {d : Nat} {l0 l1 l2 l3 l4 l5 l6 : Option Value} {v1 v2 : Value} {a : Nat} {m : jmM} {Q : Option Value → jmM → Prop} : AW d 167 70 [l0, l1, l2, l3, l4, l5, l6] [.ref a, v1, v2] m Q ↔ (mS m a).1 = 11 ∧ AW d 167 73 [l0, l1, l2, l3, l4, l5, l6] [va_rf (mR m a 8), v1, v2] m Q := A_getfield (f := fun m a => va_rf (mR m a 8)) hB_X11_span dX11_span_70 hO_X11_span fF_11_56 rfl
theorem dX11_span_73 : decode cX11_span 73 = .ok (.invokevirtual 141, 3) := by decide +kernel
theorem tX11_span_73 {d : Nat} {l0 l1 l2 l3 l4 l5 l6 : Option Value} {v1 v2 : Value} {a : Nat} {m : jmM} {Q : Option Value → jmM → Prop} : AW d 167 73 [l0, l1, l2, l3, l4, l5, l6] [.ref a, v1, v2] m Q ↔ (mS m a).1 = 5 ∧ CC d 47 [.ref a] m (jK d 167 76 [l0, l1, l2, l3, l4, l5, l6] [v1, v2] Q) := A_callV hB_X11_span dX11_span_73 hO_X11_span fS_11_141 ⟨Nat.le_of_ble_eq_true rfl, Nat.le_of_ble_eq_true rfl⟩ rfl rfl rfl
theorem dX11_span_76 : decode cX11_span 76 = .ok (.iload_n 1, 1) := by decide +kernel
theorem tX11_span_76 {d : Nat} {l0 l2 l3 l4 l5 l6 : Option Value} {v0 v1 v2 : Value} {x : Int32} {m : jmM} {Q : Option Value → jmM → Prop} : AW d 167 76 [l0, some (.int x), l2, l3, l4, l5, l6] [v0, v1, v2] m Q ↔ AW d 167 77 [l0, some (.int x), l2, l3, l4, l5, l6] [.int x, v0, v1, v2] m Q := A_iload_n hB_X11_span dX11_span_76 rfl
theorem dX11_span_77 : decode cX11_span 77 = .ok (.invokevirtual 294, 3) := by decide +kernel
theorem tX11_span_77 {d : Nat} {l0 l1 l2 l3 l4 l5 l6 : Option Value} {v2 v3 : Value} {y0 : Value} {a : Nat} {m : jmM} {Q : Option Value → jmM → Prop} : AW d 167 77 [l0, l1, l2, l3, l4, l5, l6] [y0, .ref a, v2, v3] m Q ↔ (mS m a).1 = 8 ∧ CC d 128 [.ref a, y0] m (jK d 167 80 [l0, l1, l2, l3, l4, l5, l6] [v2, v3] Q) := A_callV hB_X11_span dX11_span_77 hO_X11_span fS_11_294 ⟨Nat.le_of_ble_eq_true rfl, Nat.le_of_ble_eq_true rfl⟩ rfl rfl rfl
theorem dX11_span_80 : decode cX11_span 80 = .ok (.i2l, 1) := by decide +kernel
theorem tX11_span_80 {d : Nat} {l0 l1 l2 l3 l4 l5 l6 : Option Value} {v1 v2 : Value} {x : Int32} {m : jmM} {Q : Option Value → jmM → Prop} : AW d 167 80 [l0, l1, l2, l3, l4, l5, l6] [.int x, v1, v2] m Q ↔ AW d 167 81 [l0, l1, l2, l3, l4, l5, l6] [.long x.toInt64, v1, v2] m Q := A_i2l hB_X11_span dX11_span_80
theorem dX11_span_81 : decode cX11_span 81 = .ok (.iload 6, 2) := by decide +kernel
theorem tX11_span_81 {d : Nat} {l0 l1 l2 l3 l4 l5 : Option Value} {v0 v1 v2 : Value} {x : Int32} {m : jmM} {Q : Option Value → jmM → Prop} : AW d 167 81 [l0, l1, l2, l3, l4, l5, some (.int x)] [v0, v1, v2] m Q ↔ AW d 167 83 [l0, l1, l2, l3, l4, l5, some (.int x)] [.int x, v0, v1, v2] m Q := A_iload hB_X11_span dX11_span_81 rfl
theorem dX11_span_83 : decode cX11_span 83 = .ok (.aload_n 0, 1) := by decide +kernel
theorem tX11_span_83 {d : Nat} {l1 l2 l3 l4 l5 l6 : Option Value} {v0 v1 v2 v3 : Value} {x : Nat} {m : jmM} {Q : Option Value → jmM → Prop} : AW d 167 83 [some (.ref x), l1, l2, l3, l4, l5, l6] [v0, v1, v2, v3] m Q ↔ AW d 167 84 [some (.ref x), l1, l2, l3, l4, l5, l6] [.ref x, v0, v1, v2, v3] m Q := A_aload_n hB_X11_span dX11_span_83 rfl
theorem dX11_span_84 : decode cX11_span 84 = .ok (.getfield 92, 3) := by decide +kernel
theorem tX11_span_84 {d : Nat} {l0 l1 l2 l3 l4 l5 l6 : Option Value} {v1 v2 v3 v4 : Value} {a : Nat} {m : jmM} {Q : Option Value → jmM → Prop} : AW d 167 84 [l0, l1, l2, l3, l4, l5, l6] [.ref a, v1, v2, v3, v4] m Q ↔ (mS m a).1 = 11 ∧ AW d 167 87 [l0, l1, l2, l3, l4, l5, l6] [va_rf (mR m a 15), v1, v2, v3, v4] m Q := A_getfield (f := fun m a => va_rf (mR m a 15)) hB_X11_span dX11_span_84 hO_X11_span fF_11_92 rfl
theorem dX11_span_87 : decode cX11_span 87 = .ok (.invokevirtual 264, 3) := by decide +kernel
theorem tX11_span_87 {d : Nat} {l0 l1 l2 l3 l4 l5 l6 : Option Value} {y0 y1 y2 y3 : Value} {a : Nat} {m : jmM} {Q : Option Value → jmM → Prop} : AW d 167 87 [l0, l1, l2, l3, l4, l5, l6] [y0, y1, y2, y3, .ref a] m Q ↔ (mS m a).1 = 5 ∧ CC d 71 [.ref a, y3, y2, y1, y0] m (jK d 167 90 [l0, l1, l2, l3, l4, l5, l6] [] Q) := A_callV hB_X11_span dX11_span_87 hO_X11_span fS_11_264 ⟨Nat.le_of_ble_eq_true rfl, Nat.le_of_ble_eq_true rfl⟩ rfl rfl rfl
theorem dX11_span_90 : decode cX11_span 90 = .ok (.aload_n 0, 1) := by decide +kernel
theorem tX11_span_90 {d : Nat} {l1 l2 l3 l4 l5 l6 : Option Value} {x : Nat} {m : jmM} {Q : Option Value → jmM → Prop} : AW d 167 90 [some (.ref x), l1, l2, l3, l4, l5, l6] [] m Q ↔ AW d 167 91 [some (.ref x), l1, l2, l3, l4, l5, l6] [.ref x] m Q := A_aload_n hB_X11_span dX11_span_90 rfl
theorem dX11_span_91 : decode cX11_span 91 = .ok (.getfield 88, 3) := by decide +kernel
theorem tX11_span_91 {d : Nat} {l0 l1 l2 l3 l4 l5 l6 : Option Value} {a : Nat} {m : jmM} {Q : Option Value → jmM → Prop} : AW d 167 91 [l0, l1, l2, l3, l4, l5, l6] [.ref a] m Q ↔ (mS m a).1 = 11 ∧ AW d 167 94 [l0, l1, l2, l3, l4, l5, l6] [va_rf (mR m a 14)] m Q := A_getfield (f := fun m a => va_rf (mR m a 14)) hB_X11_span dX11_span_91 hO_X11_span fF_11_88 rfl
theorem dX11_span_94 : decode cX11_span 94 = .ok (.aload_n 0, 1) := by decide +kernel
theorem tX11_span_94 {d : Nat} {l1 l2 l3 l4 l5 l6 : Option Value} {v0 : Value} {x : Nat} {m : jmM} {Q : Option Value → jmM → Prop} : AW d 167 94 [some (.ref x), l1, l2, l3, l4, l5, l6] [v0] m Q ↔ AW d 167 95 [some (.ref x), l1, l2, l3, l4, l5, l6] [.ref x, v0] m Q := A_aload_n hB_X11_span dX11_span_94 rfl
theorem dX11_span_95 : decode cX11_span 95 = .ok (.getfield 92, 3) := by decide +kernel
theorem tX11_span_95 {d : Nat} {l0 l1 l2 l3 l4 l5 l6 : Option Value} {v1 : Value} {a : Nat} {m : jmM} {Q : Option Value → jmM → Prop} : AW d 167 95 [l0, l1, l2, l3, l4, l5, l6] [.ref a, v1] m Q ↔ (mS m a).1 = 11 ∧ AW d 167 98 [l0, l1, l2, l3, l4, l5, l6] [va_rf (mR m a 15), v1] m Q := A_getfield (f := fun m a => va_rf (mR m a 15)) hB_X11_span dX11_span_95 hO_X11_span fF_11_92 rfl
theorem dX11_span_98 : decode cX11_span 98 = .ok (.invokevirtual 297, 3) := by decide +kernel
theorem tX11_span_98 {d : Nat} {l0 l1 l2 l3 l4 l5 l6 : Option Value} {y0 : Value} {a : Nat} {m : jmM} {Q : Option Value → jmM → Prop} : AW d 167 98 [l0, l1, l2, l3, l4, l5, l6] [y0, .ref a] m Q ↔ (mS m a).1 = 7 ∧ CC d 117 [.ref a, y0] m (jK d 167 101 [l0, l1, l2, l3, l4, l5, l6] [] Q) := A_callV hB_X11_span dX11_span_98 hO_X11_span fS_11_297 ⟨Nat.le_of_ble_eq_true rfl, Nat.le_of_ble_eq_true rfl⟩ rfl rfl rfl
theorem dX11_span_101 : decode cX11_span 101 = .ok (.ifCond .eq 22, 3) := by decide +kernel
theorem tX11_span_101 {d : Nat} {l0 l1 l2 l3 l4 l5 l6 : Option Value} {x : Int32} {m : jmM} {Q : Option Value → jmM → Prop} : AW d 167 101 [l0, l1, l2, l3, l4, l5, l6] [.int x] m Q ↔ if x = 0 then AW d 167 123 [l0, l1, l2, l3, l4, l5, l6] [] m Q else AW d 167 104 [l0, l1, l2, l3, l4, l5, l6] [] m Q := A_if_eq hB_X11_span dX11_span_101 (by decide)
theorem dX11_span_104 : decode cX11_span 104 = .ok (.iload 5, 2) := by decide +kernel
theorem tX11_span_104 {d : Nat} {l0 l1 l2 l3 l4 l6 : Option Value} {x : Int32} {m : jmM} {Q : Option Value → jmM → Prop} : AW d 167 104 [l0, l1, l2, l3, l4, some (.int x), l6] [] m Q ↔ AW d 167 106 [l0, l1, l2, l3, l4, some (.int x), l6] [.int x] m Q := A_iload hB_X11_span dX11_span_104 rfl
theorem dX11_span_106 : decode cX11_span 106 = .ok (.ifCond .ne 8, 3) := by decide +kernel
theorem tX11_span_106 {d : Nat} {l0 l1 l2 l3 l4 l5 l6 : Option Value} {x : Int32} {m : jmM} {Q : Option Value → jmM → Prop} : AW d 167 106 [l0, l1, l2, l3, l4, l5, l6] [.int x] m Q ↔ if x = 0 then AW d 167 109 [l0, l1, l2, l3, l4, l5, l6] [] m Q else AW d 167 114 [l0, l1, l2, l3, l4, l5, l6] [] m Q := A_if_ne hB_X11_span dX11_span_106 (by decide)
theorem dX11_span_109 : decode cX11_span 109 = .ok (.iload 6, 2) := by decide +kernel
theorem tX11_span_109 {d : Nat} {l0 l1 l2 l3 l4 l5 : Option Value} {x : Int32} {m : jmM} {Q : Option Value → jmM → Prop} : AW d 167 109 [l0, l1, l2, l3, l4, l5, some (.int x)] [] m Q ↔ AW d 167 111 [l0, l1, l2, l3, l4, l5, some (.int x)] [.int x] m Q := A_iload hB_X11_span dX11_span_109 rfl
theorem dX11_span_111 : decode cX11_span 111 = .ok (.goto 4, 3) := by decide +kernel
theorem tX11_span_111 {d : Nat} {l0 l1 l2 l3 l4 l5 l6 : Option Value} {v0 : Value} {m : jmM} {Q : Option Value → jmM → Prop} : AW d 167 111 [l0, l1, l2, l3, l4, l5, l6] [v0] m Q ↔ AW d 167 115 [l0, l1, l2, l3, l4, l5, l6] [v0] m Q := A_goto hB_X11_span dX11_span_111 (by decide)
theorem dX11_span_114 : decode cX11_span 114 = .ok (.iload_n 3, 1) := by decide +kernel
theorem tX11_span_114 {d : Nat} {l0 l1 l2 l4 l5 l6 : Option Value} {x : Int32} {m : jmM} {Q : Option Value → jmM → Prop} : AW d 167 114 [l0, l1, l2, some (.int x), l4, l5, l6] [] m Q ↔ AW d 167 115 [l0, l1, l2, some (.int x), l4, l5, l6] [.int x] m Q := A_iload_n hB_X11_span dX11_span_114 rfl
theorem dX11_span_115 : decode cX11_span 115 = .ok (.istore_n 3, 1) := by decide +kernel
theorem tX11_span_115 {d : Nat} {l0 l1 l2 l3 l4 l5 l6 : Option Value} {x : Int32} {m : jmM} {Q : Option Value → jmM → Prop} : AW d 167 115 [l0, l1, l2, l3, l4, l5, l6] [.int x] m Q ↔ AW d 167 116 [l0, l1, jc1 l2, some (.int x), l4, l5, l6] [] m Q := A_istore_n hB_X11_span dX11_span_115 (Nat.le_of_ble_eq_true rfl) rfl
theorem dX11_span_116 : decode cX11_span 116 = .ok (.iload 6, 2) := by decide +kernel
theorem tX11_span_116 {d : Nat} {l0 l1 l2 l3 l4 l5 : Option Value} {x : Int32} {m : jmM} {Q : Option Value → jmM → Prop} : AW d 167 116 [l0, l1, l2, l3, l4, l5, some (.int x)] [] m Q ↔ AW d 167 118 [l0, l1, l2, l3, l4, l5, some (.int x)] [.int x] m Q := A_iload hB_X11_span dX11_span_116 rfl
theorem dX11_span_118 : decode cX11_span 118 = .ok (.istore 4, 2) := by decide +kernel
theorem tX11_span_118 {d : Nat} {l0 l1 l2 l3 l4 l5 l6 : Option Value} {x : Int32} {m : jmM} {Q : Option Value → jmM → Prop} : AW d 167 118 [l0, l1, l2, l3, l4, l5, l6] [.int x] m Q ↔ AW d 167 120 [l0, l1, l2, jc1 l3, some (.int x), l5, l6] [] m Q := A_istore hB_X11_span dX11_span_118 (Nat.le_of_ble_eq_true rfl) rfl
theorem dX11_span_120 : decode cX11_span 120 = .ok (.iinc 5 1, 3) := by decide +kernel
theorem tX11_span_120 {d : Nat} {l0 l1 l2 l3 l4 l6 : Option Value} {x : Int32} {m : jmM} {Q : Option Value → jmM → Prop} : AW d 167 120 [l0, l1, l2, l3, l4, some (.int x), l6] [] m Q ↔ AW d 167 123 [l0, l1, l2, l3, jc1 l4, some (.int (x + 1)), l6] [] m Q := A_iinc hB_X11_span dX11_span_120 rfl (Nat.le_of_ble_eq_true rfl) (v := 1) (by decide) rfl
theorem dX11_span_123 : decode cX11_span 123 = .ok (.iinc 6 1, 3) := by decide +kernel
theorem tX11_span_123 {d : Nat} {l0 l1 l2 l3 l4 l5 : Option Value} {x : Int32} {m : jmM} {Q : Option Value → jmM → Prop} : AW d 167 123 [l0, l1, l2, l3, l4, l5, some (.int x)] [] m Q ↔ AW d 167 126 [l0, l1, l2, l3, l4, jc1 l5, some (.int (x + 1))] [] m Q := A_iinc hB_X11_span dX11_span_123 rfl (Nat.le_of_ble_eq_true rfl) (v := 1) (by decide) rfl
theorem dX11_span_126 : decode cX11_span 126 = .ok (.goto (-70), 3) := by decide +kernel
theorem tX11_span_126 {d : Nat} {l0 l1 l2 l3 l4 l5 l6 : Option Value} {m : jmM} {Q : Option Value → jmM → Prop} : AW d 167 126 [l0, l1, l2, l3, l4, l5, l6] [] m Q ↔ AW d 167 56 [l0, l1, l2, l3, l4, l5, l6] [] m Q := A_goto hB_X11_span dX11_span_126 (by decide)
theorem dX11_span_129 : decode cX11_span 129 = .ok (.iload_n 2, 1) := by decide +kernel
theorem tX11_span_129 {d : Nat} {l0 l1 l3 l4 l5 l6 : Option Value} {x : Int32} {m : jmM} {Q : Option Value → jmM → Prop} : AW d 167 129 [l0, l1, some (.int x), l3, l4, l5, l6] [] m Q ↔ AW d 167 130 [l0, l1, some (.int x), l3, l4, l5, l6] [.int x] m Q := A_iload_n hB_X11_span dX11_span_129 rfl
theorem dX11_span_130 : decode cX11_span 130 = .ok (.ifCond .ne 7, 3) := by decide +kernel
theorem tX11_span_130 {d : Nat} {l0 l1 l2 l3 l4 l5 l6 : Option Value} {x : Int32} {m : jmM} {Q : Option Value → jmM → Prop} : AW d 167 130 [l0, l1, l2, l3, l4, l5, l6] [.int x] m Q ↔ if x = 0 then AW d 167 133 [l0, l1, l2, l3, l4, l5, l6] [] m Q else AW d 167 137 [l0, l1, l2, l3, l4, l5, l6] [] m Q := A_if_ne hB_X11_span dX11_span_130 (by decide)
theorem dX11_span_133 : decode cX11_span 133 = .ok (.iload_n 3, 1) := by decide +kernel
theorem tX11_span_133 {d : Nat} {l0 l1 l2 l4 l5 l6 : Option Value} {x : Int32} {m : jmM} {Q : Option Value → jmM → Prop} : AW d 167 133 [l0, l1, l2, some (.int x), l4, l5, l6] [] m Q ↔ AW d 167 134 [l0, l1, l2, some (.int x), l4, l5, l6] [.int x] m Q := A_iload_n hB_X11_span dX11_span_133 rfl
theorem dX11_span_134 : decode cX11_span 134 = .ok (.goto 15, 3) := by decide +kernel
theorem tX11_span_134 {d : Nat} {l0 l1 l2 l3 l4 l5 l6 : Option Value} {v0 : Value} {m : jmM} {Q : Option Value → jmM → Prop} : AW d 167 134 [l0, l1, l2, l3, l4, l5, l6] [v0] m Q ↔ AW d 167 149 [l0, l1, l2, l3, l4, l5, l6] [v0] m Q := A_goto hB_X11_span dX11_span_134 (by decide)
theorem dX11_span_137 : decode cX11_span 137 = .ok (.iload_n 2, 1) := by decide +kernel
theorem tX11_span_137 {d : Nat} {l0 l1 l3 l4 l5 l6 : Option Value} {x : Int32} {m : jmM} {Q : Option Value → jmM → Prop} : AW d 167 137 [l0, l1, some (.int x), l3, l4, l5, l6] [] m Q ↔ AW d 167 138 [l0, l1, some (.int x), l3, l4, l5, l6] [.int x] m Q := A_iload_n hB_X11_span dX11_span_137 rfl
theorem dX11_span_138 : decode cX11_span 138 = .ok (.iconst 1, 1) := by decide +kernel
theorem tX11_span_138 {d : Nat} {l0 l1 l2 l3 l4 l5 l6 : Option Value} {v0 : Value} {m : jmM} {Q : Option Value → jmM → Prop} : AW d 167 138 [l0, l1, l2, l3, l4, l5, l6] [v0] m Q ↔ AW d 167 139 [l0, l1, l2, l3, l4, l5, l6] [.int 1, v0] m Q := A_iconst hB_X11_span dX11_span_138 (by decide)
theorem dX11_span_139 : decode cX11_span 139 = .ok (.if_icmp .ne 8, 3) := by decide +kernel
theorem tX11_span_139 {d : Nat} {l0 l1 l2 l3 l4 l5 l6 : Option Value} {x y : Int32} {m : jmM} {Q : Option Value → jmM → Prop} : AW d 167 139 [l0, l1, l2, l3, l4, l5, l6] [.int y, .int x] m Q ↔ if x = y then AW d 167 142 [l0, l1, l2, l3, l4, l5, l6] [] m Q else AW d 167 147 [l0, l1, l2, l3, l4, l5, l6] [] m Q := A_icmp_ne hB_X11_span dX11_span_139 (by decide)
theorem dX11_span_142 : decode cX11_span 142 = .ok (.iload 4, 2) := by decide +kernel
theorem tX11_span_142 {d : Nat} {l0 l1 l2 l3 l5 l6 : Option Value} {x : Int32} {m : jmM} {Q : Option Value → jmM → Prop} : AW d 167 142 [l0, l1, l2, l3, some (.int x), l5, l6] [] m Q ↔ AW d 167 144 [l0, l1, l2, l3, some (.int x), l5, l6] [.int x] m Q := A_iload hB_X11_span dX11_span_142 rfl
theorem dX11_span_144 : decode cX11_span 144 = .ok (.goto 5, 3) := by decide +kernel
theorem tX11_span_144 {d : Nat} {l0 l1 l2 l3 l4 l5 l6 : Option Value} {v0 : Value} {m : jmM} {Q : Option Value → jmM → Prop} : AW d 167 144 [l0, l1, l2, l3, l4, l5, l6] [v0] m Q ↔ AW d 167 149 [l0, l1, l2, l3, l4, l5, l6] [v0] m Q := A_goto hB_X11_span dX11_span_144 (by decide)
theorem dX11_span_147 : decode cX11_span 147 = .ok (.iload 5, 2) := by decide +kernel
theorem tX11_span_147 {d : Nat} {l0 l1 l2 l3 l4 l6 : Option Value} {x : Int32} {m : jmM} {Q : Option Value → jmM → Prop} : AW d 167 147 [l0, l1, l2, l3, l4, some (.int x), l6] [] m Q ↔ AW d 167 149 [l0, l1, l2, l3, l4, some (.int x), l6] [.int x] m Q := A_iload hB_X11_span dX11_span_147 rfl
theorem dX11_span_149 : decode cX11_span 149 = .ok (.ireturn, 1) := by decide +kernel
theorem tX11_span_149 {d : Nat} {l0 l1 l2 l3 l4 l5 l6 : Option Value} {x : Int32} {m : jmM} {Q : Option Value → jmM → Prop} : AW d 167 149 [l0, l1, l2, l3, l4, l5, l6] [.int x] m Q ↔ Q (some (.int x)) m := A_ireturn hB_X11_span dX11_span_149 hR_X11_span
theorem hB_X11_choice : jB 168 = cX11_choice := rfl
theorem hO_X11_choice : jO 168 = 11 := rfl
theorem hR_X11_choice : jRt 168 = (some .int) := rfl
theorem nX11_choice (d : Nat) (x0 : Nat) (x1 : Int32) (x2 : Int32) (m : jmM) (Q : Option Value → jmM → Prop) : CC (d + 1) 168 [.ref x0, .int x1, .int x2] m Q ↔ AW d 168 0 [some (.ref x0), some (.int x1), some (.int x2), none, none, none] [] m Q := CC_body (Nat.le_of_ble_eq_true rfl)
theorem dX11_choice_0 : decode cX11_choice 0 = .ok (.aload_n 0, 1) := by decide +kernel
theorem tX11_choice_0 {d : Nat} {l1 l2 l3 l4 l5 : Option Value} {x : Nat} {m : jmM} {Q : Option Value → jmM → Prop} : AW d 168 0 [some (.ref x), l1, l2, l3, l4, l5] [] m Q ↔ AW d 168 1 [some (.ref x), l1, l2, l3, l4, l5] [.ref x] m Q := A_aload_n hB_X11_choice dX11_choice_0 rfl
theorem dX11_choice_1 : decode cX11_choice 1 = .ok (.getfield 56, 3) := by decide +kernel
theorem tX11_choice_1 {d : Nat} {l0 l1 l2 l3 l4 l5 : Option Value} {a : Nat} {m : jmM} {Q : Option Value → jmM → Prop} : AW d 168 1 [l0, l1, l2, l3, l4, l5] [.ref a] m Q ↔ (mS m a).1 = 11 ∧ AW d 168 4 [l0, l1, l2, l3, l4, l5] [va_rf (mR m a 8)] m Q := A_getfield (f := fun m a => va_rf (mR m a 8)) hB_X11_choice dX11_choice_1 hO_X11_choice fF_11_56 rfl
theorem dX11_choice_4 : decode cX11_choice 4 = .ok (.invokevirtual 159, 3) := by decide +kernel
theorem tX11_choice_4 {d : Nat} {l0 l1 l2 l3 l4 l5 : Option Value} {a : Nat} {m : jmM} {Q : Option Value → jmM → Prop} : AW d 168 4 [l0, l1, l2, l3, l4, l5] [.ref a] m Q ↔ (mS m a).1 = 5 ∧ CC d 73 [.ref a] m (jK d 168 7 [l0, l1, l2, l3, l4, l5] [] Q) := A_callV hB_X11_choice dX11_choice_4 hO_X11_choice fS_11_159 ⟨Nat.le_of_ble_eq_true rfl, Nat.le_of_ble_eq_true rfl⟩ rfl rfl rfl
theorem dX11_choice_7 : decode cX11_choice 7 = .ok (.ifCond .eq 23, 3) := by decide +kernel
theorem tX11_choice_7 {d : Nat} {l0 l1 l2 l3 l4 l5 : Option Value} {x : Int32} {m : jmM} {Q : Option Value → jmM → Prop} : AW d 168 7 [l0, l1, l2, l3, l4, l5] [.int x] m Q ↔ if x = 0 then AW d 168 30 [l0, l1, l2, l3, l4, l5] [] m Q else AW d 168 10 [l0, l1, l2, l3, l4, l5] [] m Q := A_if_eq hB_X11_choice dX11_choice_7 (by decide)
theorem dX11_choice_10 : decode cX11_choice 10 = .ok (.iload_n 1, 1) := by decide +kernel
theorem tX11_choice_10 {d : Nat} {l0 l2 l3 l4 l5 : Option Value} {x : Int32} {m : jmM} {Q : Option Value → jmM → Prop} : AW d 168 10 [l0, some (.int x), l2, l3, l4, l5] [] m Q ↔ AW d 168 11 [l0, some (.int x), l2, l3, l4, l5] [.int x] m Q := A_iload_n hB_X11_choice dX11_choice_10 rfl
theorem dX11_choice_11 : decode cX11_choice 11 = .ok (.iconst 1, 1) := by decide +kernel
theorem tX11_choice_11 {d : Nat} {l0 l1 l2 l3 l4 l5 : Option Value} {v0 : Value} {m : jmM} {Q : Option Value → jmM → Prop} : AW d 168 11 [l0, l1, l2, l3, l4, l5] [v0] m Q ↔ AW d 168 12 [l0, l1, l2, l3, l4, l5] [.int 1, v0] m Q := A_iconst hB_X11_choice dX11_choice_11 (by decide)
theorem dX11_choice_12 : decode cX11_choice 12 = .ok (.sipush 300, 3) := by decide +kernel
theorem tX11_choice_12 {d : Nat} {l0 l1 l2 l3 l4 l5 : Option Value} {v0 v1 : Value} {m : jmM} {Q : Option Value → jmM → Prop} : AW d 168 12 [l0, l1, l2, l3, l4, l5] [v0, v1] m Q ↔ AW d 168 15 [l0, l1, l2, l3, l4, l5] [.int 300, v0, v1] m Q := A_sipush hB_X11_choice dX11_choice_12 rfl
theorem dX11_choice_15 : decode cX11_choice 15 = .ok (.invokestatic 128, 3) := by decide +kernel
theorem tX11_choice_15 {d : Nat} {l0 l1 l2 l3 l4 l5 : Option Value} {y0 y1 y2 : Value} {m : jmM} {Q : Option Value → jmM → Prop} : AW d 168 15 [l0, l1, l2, l3, l4, l5] [y0, y1, y2] m Q ↔ CC d 183 [y2, y1, y0] m (jK d 168 18 [l0, l1, l2, l3, l4, l5] [] Q) := A_callS0 hB_X11_choice dX11_choice_15 hO_X11_choice fS_11_128 ⟨Nat.le_of_ble_eq_true rfl, Nat.le_of_ble_eq_true rfl⟩ rfl rfl
theorem dX11_choice_18 : decode cX11_choice 18 = .ok (.ifCond .eq 12, 3) := by decide +kernel
theorem tX11_choice_18 {d : Nat} {l0 l1 l2 l3 l4 l5 : Option Value} {x : Int32} {m : jmM} {Q : Option Value → jmM → Prop} : AW d 168 18 [l0, l1, l2, l3, l4, l5] [.int x] m Q ↔ if x = 0 then AW d 168 30 [l0, l1, l2, l3, l4, l5] [] m Q else AW d 168 21 [l0, l1, l2, l3, l4, l5] [] m Q := A_if_eq hB_X11_choice dX11_choice_18 (by decide)
theorem dX11_choice_21 : decode cX11_choice 21 = .ok (.iload_n 2, 1) := by decide +kernel
theorem tX11_choice_21 {d : Nat} {l0 l1 l3 l4 l5 : Option Value} {x : Int32} {m : jmM} {Q : Option Value → jmM → Prop} : AW d 168 21 [l0, l1, some (.int x), l3, l4, l5] [] m Q ↔ AW d 168 22 [l0, l1, some (.int x), l3, l4, l5] [.int x] m Q := A_iload_n hB_X11_choice dX11_choice_21 rfl
theorem dX11_choice_22 : decode cX11_choice 22 = .ok (.iconst 0, 1) := by decide +kernel
theorem tX11_choice_22 {d : Nat} {l0 l1 l2 l3 l4 l5 : Option Value} {v0 : Value} {m : jmM} {Q : Option Value → jmM → Prop} : AW d 168 22 [l0, l1, l2, l3, l4, l5] [v0] m Q ↔ AW d 168 23 [l0, l1, l2, l3, l4, l5] [.int 0, v0] m Q := A_iconst hB_X11_choice dX11_choice_22 (by decide)
theorem dX11_choice_23 : decode cX11_choice 23 = .ok (.iconst 3, 1) := by decide +kernel
theorem tX11_choice_23 {d : Nat} {l0 l1 l2 l3 l4 l5 : Option Value} {v0 v1 : Value} {m : jmM} {Q : Option Value → jmM → Prop} : AW d 168 23 [l0, l1, l2, l3, l4, l5] [v0, v1] m Q ↔ AW d 168 24 [l0, l1, l2, l3, l4, l5] [.int 3, v0, v1] m Q := A_iconst hB_X11_choice dX11_choice_23 (by decide)
theorem dX11_choice_24 : decode cX11_choice 24 = .ok (.invokestatic 128, 3) := by decide +kernel
theorem tX11_choice_24 {d : Nat} {l0 l1 l2 l3 l4 l5 : Option Value} {y0 y1 y2 : Value} {m : jmM} {Q : Option Value → jmM → Prop} : AW d 168 24 [l0, l1, l2, l3, l4, l5] [y0, y1, y2] m Q ↔ CC d 183 [y2, y1, y0] m (jK d 168 27 [l0, l1, l2, l3, l4, l5] [] Q) := A_callS0 hB_X11_choice dX11_choice_24 hO_X11_choice fS_11_128 ⟨Nat.le_of_ble_eq_true rfl, Nat.le_of_ble_eq_true rfl⟩ rfl rfl
theorem dX11_choice_27 : decode cX11_choice 27 = .ok (.ifCond .ne 5, 3) := by decide +kernel
theorem tX11_choice_27 {d : Nat} {l0 l1 l2 l3 l4 l5 : Option Value} {x : Int32} {m : jmM} {Q : Option Value → jmM → Prop} : AW d 168 27 [l0, l1, l2, l3, l4, l5] [.int x] m Q ↔ if x = 0 then AW d 168 30 [l0, l1, l2, l3, l4, l5] [] m Q else AW d 168 32 [l0, l1, l2, l3, l4, l5] [] m Q := A_if_ne hB_X11_choice dX11_choice_27 (by decide)
theorem dX11_choice_30 : decode cX11_choice 30 = .ok (.iconst (-1), 1) := by decide +kernel
theorem tX11_choice_30 {d : Nat} {l0 l1 l2 l3 l4 l5 : Option Value} {m : jmM} {Q : Option Value → jmM → Prop} : AW d 168 30 [l0, l1, l2, l3, l4, l5] [] m Q ↔ AW d 168 31 [l0, l1, l2, l3, l4, l5] [.int (-1)] m Q := A_iconst hB_X11_choice dX11_choice_30 (by decide)
theorem dX11_choice_31 : decode cX11_choice 31 = .ok (.ireturn, 1) := by decide +kernel
theorem tX11_choice_31 {d : Nat} {l0 l1 l2 l3 l4 l5 : Option Value} {x : Int32} {m : jmM} {Q : Option Value → jmM → Prop} : AW d 168 31 [l0, l1, l2, l3, l4, l5] [.int x] m Q ↔ Q (some (.int x)) m := A_ireturn hB_X11_choice dX11_choice_31 hR_X11_choice
theorem dX11_choice_32 : decode cX11_choice 32 = .ok (.aload_n 0, 1) := by decide +kernel
theorem tX11_choice_32 {d : Nat} {l1 l2 l3 l4 l5 : Option Value} {x : Nat} {m : jmM} {Q : Option Value → jmM → Prop} : AW d 168 32 [some (.ref x), l1, l2, l3, l4, l5] [] m Q ↔ AW d 168 33 [some (.ref x), l1, l2, l3, l4, l5] [.ref x] m Q := A_aload_n hB_X11_choice dX11_choice_32 rfl
theorem dX11_choice_33 : decode cX11_choice 33 = .ok (.aload_n 0, 1) := by decide +kernel
theorem tX11_choice_33 {d : Nat} {l1 l2 l3 l4 l5 : Option Value} {v0 : Value} {x : Nat} {m : jmM} {Q : Option Value → jmM → Prop} : AW d 168 33 [some (.ref x), l1, l2, l3, l4, l5] [v0] m Q ↔ AW d 168 34 [some (.ref x), l1, l2, l3, l4, l5] [.ref x, v0] m Q := A_aload_n hB_X11_choice dX11_choice_33 rfl
theorem dX11_choice_34 : decode cX11_choice 34 = .ok (.getfield 56, 3) := by decide +kernel
theorem tX11_choice_34 {d : Nat} {l0 l1 l2 l3 l4 l5 : Option Value} {v1 : Value} {a : Nat} {m : jmM} {Q : Option Value → jmM → Prop} : AW d 168 34 [l0, l1, l2, l3, l4, l5] [.ref a, v1] m Q ↔ (mS m a).1 = 11 ∧ AW d 168 37 [l0, l1, l2, l3, l4, l5] [va_rf (mR m a 8), v1] m Q := A_getfield (f := fun m a => va_rf (mR m a 8)) hB_X11_choice dX11_choice_34 hO_X11_choice fF_11_56 rfl
theorem dX11_choice_37 : decode cX11_choice 37 = .ok (.invokevirtual 249, 3) := by decide +kernel
theorem tX11_choice_37 {d : Nat} {l0 l1 l2 l3 l4 l5 : Option Value} {y0 : Value} {a : Nat} {m : jmM} {Q : Option Value → jmM → Prop} : AW d 168 37 [l0, l1, l2, l3, l4, l5] [y0, .ref a] m Q ↔ (mS m a).1 = 11 ∧ CC d 178 [.ref a, y0] m (jK d 168 40 [l0, l1, l2, l3, l4, l5] [] Q) := A_callV hB_X11_choice dX11_choice_37 hO_X11_choice fS_11_249 ⟨Nat.le_of_ble_eq_true rfl, Nat.le_of_ble_eq_true rfl⟩ rfl rfl rfl
theorem dX11_choice_40 : decode cX11_choice 40 = .ok (.istore_n 3, 1) := by decide +kernel
theorem tX11_choice_40 {d : Nat} {l0 l1 l2 l3 l4 l5 : Option Value} {x : Int32} {m : jmM} {Q : Option Value → jmM → Prop} : AW d 168 40 [l0, l1, l2, l3, l4, l5] [.int x] m Q ↔ AW d 168 41 [l0, l1, jc1 l2, some (.int x), l4, l5] [] m Q := A_istore_n hB_X11_choice dX11_choice_40 (Nat.le_of_ble_eq_true rfl) rfl
theorem dX11_choice_41 : decode cX11_choice 41 = .ok (.aload_n 0, 1) := by decide +kernel
theorem tX11_choice_41 {d : Nat} {l1 l2 l3 l4 l5 : Option Value} {x : Nat} {m : jmM} {Q : Option Value → jmM → Prop} : AW d 168 41 [some (.ref x), l1, l2, l3, l4, l5] [] m Q ↔ AW d 168 42 [some (.ref x), l1, l2, l3, l4, l5] [.ref x] m Q := A_aload_n hB_X11_choice dX11_choice_41 rfl
theorem dX11_choice_42 : decode cX11_choice 42 = .ok (.getfield 60, 3) := by decide +kernel
theorem tX11_choice_42 {d : Nat} {l0 l1 l2 l3 l4 l5 : Option Value} {a : Nat} {m : jmM} {Q : Option Value → jmM → Prop} : AW d 168 42 [l0, l1, l2, l3, l4, l5] [.ref a] m Q ↔ (mS m a).1 = 11 ∧ AW d 168 45 [l0, l1, l2, l3, l4, l5] [va_rf (mR m a 9)] m Q := A_getfield (f := fun m a => va_rf (mR m a 9)) hB_X11_choice dX11_choice_42 hO_X11_choice fF_11_60 rfl
theorem dX11_choice_45 : decode cX11_choice 45 = .ok (.aload_n 0, 1) := by decide +kernel
theorem tX11_choice_45 {d : Nat} {l1 l2 l3 l4 l5 : Option Value} {v0 : Value} {x : Nat} {m : jmM} {Q : Option Value → jmM → Prop} : AW d 168 45 [some (.ref x), l1, l2, l3, l4, l5] [v0] m Q ↔ AW d 168 46 [some (.ref x), l1, l2, l3, l4, l5] [.ref x, v0] m Q := A_aload_n hB_X11_choice dX11_choice_45 rfl
theorem dX11_choice_46 : decode cX11_choice 46 = .ok (.getfield 56, 3) := by decide +kernel
theorem tX11_choice_46 {d : Nat} {l0 l1 l2 l3 l4 l5 : Option Value} {v1 : Value} {a : Nat} {m : jmM} {Q : Option Value → jmM → Prop} : AW d 168 46 [l0, l1, l2, l3, l4, l5] [.ref a, v1] m Q ↔ (mS m a).1 = 11 ∧ AW d 168 49 [l0, l1, l2, l3, l4, l5] [va_rf (mR m a 8), v1] m Q := A_getfield (f := fun m a => va_rf (mR m a 8)) hB_X11_choice dX11_choice_46 hO_X11_choice fF_11_56 rfl
theorem dX11_choice_49 : decode cX11_choice 49 = .ok (.invokevirtual 301, 3) := by decide +kernel
theorem tX11_choice_49 {d : Nat} {l0 l1 l2 l3 l4 l5 : Option Value} {y0 : Value} {a : Nat} {m : jmM} {Q : Option Value → jmM → Prop} : AW d 168 49 [l0, l1, l2, l3, l4, l5] [y0, .ref a] m Q ↔ (mS m a).1 = 5 ∧ CC d 49 [.ref a, y0] m (jK d 168 52 [l0, l1, l2, l3, l4, l5] [] Q) := A_callV hB_X11_choice dX11_choice_49 hO_X11_choice fS_11_301 ⟨Nat.le_of_ble_eq_true rfl, Nat.le_of_ble_eq_true rfl⟩ rfl rfl rfl
theorem dX11_choice_52 : decode cX11_choice 52 = .ok (.aload_n 0, 1) := by decide +kernel
theorem tX11_choice_52 {d : Nat} {l1 l2 l3 l4 l5 : Option Value} {x : Nat} {m : jmM} {Q : Option Value → jmM → Prop} : AW d 168 52 [some (.ref x), l1, l2, l3, l4, l5] [] m Q ↔ AW d 168 53 [some (.ref x), l1, l2, l3, l4, l5] [.ref x] m Q := A_aload_n hB_X11_choice dX11_choice_52 rfl
theorem dX11_choice_53 : decode cX11_choice 53 = .ok (.getfield 60, 3) := by decide +kernel
theorem tX11_choice_53 {d : Nat} {l0 l1 l2 l3 l4 l5 : Option Value} {a : Nat} {m : jmM} {Q : Option Value → jmM → Prop} : AW d 168 53 [l0, l1, l2, l3, l4, l5] [.ref a] m Q ↔ (mS m a).1 = 11 ∧ AW d 168 56 [l0, l1, l2, l3, l4, l5] [va_rf (mR m a 9)] m Q := A_getfield (f := fun m a => va_rf (mR m a 9)) hB_X11_choice dX11_choice_53 hO_X11_choice fF_11_60 rfl
theorem dX11_choice_56 : decode cX11_choice 56 = .ok (.iload_n 1, 1) := by decide +kernel
theorem tX11_choice_56 {d : Nat} {l0 l2 l3 l4 l5 : Option Value} {v0 : Value} {x : Int32} {m : jmM} {Q : Option Value → jmM → Prop} : AW d 168 56 [l0, some (.int x), l2, l3, l4, l5] [v0] m Q ↔ AW d 168 57 [l0, some (.int x), l2, l3, l4, l5] [.int x, v0] m Q := A_iload_n hB_X11_choice dX11_choice_56 rfl
theorem dX11_choice_57 : decode cX11_choice 57 = .ok (.aload_n 0, 1) := by decide +kernel
theorem tX11_choice_57 {d : Nat} {l1 l2 l3 l4 l5 : Option Value} {v0 v1 : Value} {x : Nat} {m : jmM} {Q : Option Value → jmM → Prop} : AW d 168 57 [some (.ref x), l1, l2, l3, l4, l5] [v0, v1] m Q ↔ AW d 168 58 [some (.ref x), l1, l2, l3, l4, l5] [.ref x, v0, v1] m Q := A_aload_n hB_X11_choice dX11_choice_57 rfl
theorem dX11_choice_58 : decode cX11_choice 58 = .ok (.getfield 38, 3) := by decide +kernel
theorem tX11_choice_58 {d : Nat} {l0 l1 l2 l3 l4 l5 : Option Value} {v1 v2 : Value} {a : Nat} {m : jmM} {Q : Option Value → jmM → Prop} : AW d 168 58 [l0, l1, l2, l3, l4, l5] [.ref a, v1, v2] m Q ↔ (mS m a).1 = 11 ∧ AW d 168 61 [l0, l1, l2, l3, l4, l5] [va_rf (mR m a 4), v1, v2] m Q := A_getfield (f := fun m a => va_rf (mR m a 4)) hB_X11_choice dX11_choice_58 hO_X11_choice fF_11_38 rfl
theorem dX11_choice_61 : decode cX11_choice 61 = .ok (.invokevirtual 166, 3) := by decide +kernel
theorem tX11_choice_61 {d : Nat} {l0 l1 l2 l3 l4 l5 : Option Value} {y0 y1 : Value} {a : Nat} {m : jmM} {Q : Option Value → jmM → Prop} : AW d 168 61 [l0, l1, l2, l3, l4, l5] [y0, y1, .ref a] m Q ↔ (mS m a).1 = 5 ∧ CC d 53 [.ref a, y1, y0] m (jK d 168 64 [l0, l1, l2, l3, l4, l5] [] Q) := A_callV hB_X11_choice dX11_choice_61 hO_X11_choice fS_11_166 ⟨Nat.le_of_ble_eq_true rfl, Nat.le_of_ble_eq_true rfl⟩ rfl rfl rfl
theorem dX11_choice_64 : decode cX11_choice 64 = .ok (.pop, 1) := by decide +kernel
theorem tX11_choice_64 {d : Nat} {l0 l1 l2 l3 l4 l5 : Option Value} {x : Int32} {m : jmM} {Q : Option Value → jmM → Prop} : AW d 168 64 [l0, l1, l2, l3, l4, l5] [.int x] m Q ↔ AW d 168 65 [l0, l1, l2, l3, l4, l5] [] m Q := A_pop_i hB_X11_choice dX11_choice_64
theorem dX11_choice_65 : decode cX11_choice 65 = .ok (.aload_n 0, 1) := by decide +kernel
theorem tX11_choice_65 {d : Nat} {l1 l2 l3 l4 l5 : Option Value} {x : Nat} {m : jmM} {Q : Option Value → jmM → Prop} : AW d 168 65 [some (.ref x), l1, l2, l3, l4, l5] [] m Q ↔ AW d 168 66 [some (.ref x), l1, l2, l3, l4, l5] [.ref x] m Q := A_aload_n hB_X11_choice dX11_choice_65 rfl
theorem dX11_choice_66 : decode cX11_choice 66 = .ok (.aload_n 0, 1) := by decide +kernel
theorem tX11_choice_66 {d : Nat} {l1 l2 l3 l4 l5 : Option Value} {v0 : Value} {x : Nat} {m : jmM} {Q : Option Value → jmM → Prop} : AW d 168 66 [some (.ref x), l1, l2, l3, l4, l5] [v0] m Q ↔ AW d 168 67 [some (.ref x), l1, l2, l3, l4, l5] [.ref x, v0] m Q := A_aload_n hB_X11_choice dX11_choice_66 rfl
theorem dX11_choice_67 : decode cX11_choice 67 = .ok (.getfield 60, 3) := by decide +kernel
theorem tX11_choice_67 {d : Nat} {l0 l1 l2 l3 l4 l5 : Option Value} {v1 : Value} {a : Nat} {m : jmM} {Q : Option Value → jmM → Prop} : AW d 168 67 [l0, l1, l2, l3, l4, l5] [.ref a, v1] m Q ↔ (mS m a).1 = 11 ∧ AW d 168 70 [l0, l1, l2, l3, l4, l5] [va_rf (mR m a 9), v1] m Q := A_getfield (f := fun m a => va_rf (mR m a 9)) hB_X11_choice dX11_choice_67 hO_X11_choice fF_11_60 rfl
theorem dX11_choice_70 : decode cX11_choice 70 = .ok (.invokevirtual 249, 3) := by decide +kernel
theorem tX11_choice_70 {d : Nat} {l0 l1 l2 l3 l4 l5 : Option Value} {y0 : Value} {a : Nat} {m : jmM} {Q : Option Value → jmM → Prop} : AW d 168 70 [l0, l1, l2, l3, l4, l5] [y0, .ref a] m Q ↔ (mS m a).1 = 11 ∧ CC d 178 [.ref a, y0] m (jK d 168 73 [l0, l1, l2, l3, l4, l5] [] Q) := A_callV hB_X11_choice dX11_choice_70 hO_X11_choice fS_11_249 ⟨Nat.le_of_ble_eq_true rfl, Nat.le_of_ble_eq_true rfl⟩ rfl rfl rfl
theorem dX11_choice_73 : decode cX11_choice 73 = .ok (.istore 4, 2) := by decide +kernel
theorem tX11_choice_73 {d : Nat} {l0 l1 l2 l3 l4 l5 : Option Value} {x : Int32} {m : jmM} {Q : Option Value → jmM → Prop} : AW d 168 73 [l0, l1, l2, l3, l4, l5] [.int x] m Q ↔ AW d 168 75 [l0, l1, l2, jc1 l3, some (.int x), l5] [] m Q := A_istore hB_X11_choice dX11_choice_73 (Nat.le_of_ble_eq_true rfl) rfl
theorem dX11_choice_75 : decode cX11_choice 75 = .ok (.aload_n 0, 1) := by decide +kernel
theorem tX11_choice_75 {d : Nat} {l1 l2 l3 l4 l5 : Option Value} {x : Nat} {m : jmM} {Q : Option Value → jmM → Prop} : AW d 168 75 [some (.ref x), l1, l2, l3, l4, l5] [] m Q ↔ AW d 168 76 [some (.ref x), l1, l2, l3, l4, l5] [.ref x] m Q := A_aload_n hB_X11_choice dX11_choice_75 rfl
theorem dX11_choice_76 : decode cX11_choice 76 = .ok (.getfield 60, 3) := by decide +kernel
theorem tX11_choice_76 {d : Nat} {l0 l1 l2 l3 l4 l5 : Option Value} {a : Nat} {m : jmM} {Q : Option Value → jmM → Prop} : AW d 168 76 [l0, l1, l2, l3, l4, l5] [.ref a] m Q ↔ (mS m a).1 = 11 ∧ AW d 168 79 [l0, l1, l2, l3, l4, l5] [va_rf (mR m a 9)] m Q := A_getfield (f := fun m a => va_rf (mR m a 9)) hB_X11_choice dX11_choice_76 hO_X11_choice fF_11_60 rfl
theorem dX11_choice_79 : decode cX11_choice 79 = .ok (.aload_n 0, 1) := by decide +kernel
theorem tX11_choice_79 {d : Nat} {l1 l2 l3 l4 l5 : Option Value} {v0 : Value} {x : Nat} {m : jmM} {Q : Option Value → jmM → Prop} : AW d 168 79 [some (.ref x), l1, l2, l3, l4, l5] [v0] m Q ↔ AW d 168 80 [some (.ref x), l1, l2, l3, l4, l5] [.ref x, v0] m Q := A_aload_n hB_X11_choice dX11_choice_79 rfl
theorem dX11_choice_80 : decode cX11_choice 80 = .ok (.getfield 56, 3) := by decide +kernel
theorem tX11_choice_80 {d : Nat} {l0 l1 l2 l3 l4 l5 : Option Value} {v1 : Value} {a : Nat} {m : jmM} {Q : Option Value → jmM → Prop} : AW d 168 80 [l0, l1, l2, l3, l4, l5] [.ref a, v1] m Q ↔ (mS m a).1 = 11 ∧ AW d 168 83 [l0, l1, l2, l3, l4, l5] [va_rf (mR m a 8), v1] m Q := A_getfield (f := fun m a => va_rf (mR m a 8)) hB_X11_choice dX11_choice_80 hO_X11_choice fF_11_56 rfl
theorem dX11_choice_83 : decode cX11_choice 83 = .ok (.invokevirtual 301, 3) := by decide +kernel
theorem tX11_choice_83 {d : Nat} {l0 l1 l2 l3 l4 l5 : Option Value} {y0 : Value} {a : Nat} {m : jmM} {Q : Option Value → jmM → Prop} : AW d 168 83 [l0, l1, l2, l3, l4, l5] [y0, .ref a] m Q ↔ (mS m a).1 = 5 ∧ CC d 49 [.ref a, y0] m (jK d 168 86 [l0, l1, l2, l3, l4, l5] [] Q) := A_callV hB_X11_choice dX11_choice_83 hO_X11_choice fS_11_301 ⟨Nat.le_of_ble_eq_true rfl, Nat.le_of_ble_eq_true rfl⟩ rfl rfl rfl
theorem dX11_choice_86 : decode cX11_choice 86 = .ok (.aload_n 0, 1) := by decide +kernel
theorem tX11_choice_86 {d : Nat} {l1 l2 l3 l4 l5 : Option Value} {x : Nat} {m : jmM} {Q : Option Value → jmM → Prop} : AW d 168 86 [some (.ref x), l1, l2, l3, l4, l5] [] m Q ↔ AW d 168 87 [some (.ref x), l1, l2, l3, l4, l5] [.ref x] m Q := A_aload_n hB_X11_choice dX11_choice_86 rfl
theorem dX11_choice_87 : decode cX11_choice 87 = .ok (.getfield 60, 3) := by decide +kernel
theorem tX11_choice_87 {d : Nat} {l0 l1 l2 l3 l4 l5 : Option Value} {a : Nat} {m : jmM} {Q : Option Value → jmM → Prop} : AW d 168 87 [l0, l1, l2, l3, l4, l5] [.ref a] m Q ↔ (mS m a).1 = 11 ∧ AW d 168 90 [l0, l1, l2, l3, l4, l5] [va_rf (mR m a 9)] m Q := A_getfield (f := fun m a => va_rf (mR m a 9)) hB_X11_choice dX11_choice_87 hO_X11_choice fF_11_60 rfl
theorem dX11_choice_90 : decode cX11_choice 90 = .ok (.aload_n 0, 1) := by decide +kernel
theorem tX11_choice_90 {d : Nat} {l1 l2 l3 l4 l5 : Option Value} {v0 : Value} {x : Nat} {m : jmM} {Q : Option Value → jmM → Prop} : AW d 168 90 [some (.ref x), l1, l2, l3, l4, l5] [v0] m Q ↔ AW d 168 91 [some (.ref x), l1, l2, l3, l4, l5] [.ref x, v0] m Q := A_aload_n hB_X11_choice dX11_choice_90 rfl
theorem dX11_choice_91 : decode cX11_choice 91 = .ok (.getfield 60, 3) := by decide +kernel
theorem tX11_choice_91 {d : Nat} {l0 l1 l2 l3 l4 l5 : Option Value} {v1 : Value} {a : Nat} {m : jmM} {Q : Option Value → jmM → Prop} : AW d 168 91 [l0, l1, l2, l3, l4, l5] [.ref a, v1] m Q ↔ (mS m a).1 = 11 ∧ AW d 168 94 [l0, l1, l2, l3, l4, l5] [va_rf (mR m a 9), v1] m Q := A_getfield (f := fun m a => va_rf (mR m a 9)) hB_X11_choice dX11_choice_91 hO_X11_choice fF_11_60 rfl
theorem dX11_choice_94 : decode cX11_choice 94 = .ok (.invokevirtual 216, 3) := by decide +kernel
theorem tX11_choice_94 {d : Nat} {l0 l1 l2 l3 l4 l5 : Option Value} {v1 : Value} {a : Nat} {m : jmM} {Q : Option Value → jmM → Prop} : AW d 168 94 [l0, l1, l2, l3, l4, l5] [.ref a, v1] m Q ↔ (mS m a).1 = 5 ∧ CC d 62 [.ref a] m (jK d 168 97 [l0, l1, l2, l3, l4, l5] [v1] Q) := A_callV hB_X11_choice dX11_choice_94 hO_X11_choice fS_11_216 ⟨Nat.le_of_ble_eq_true rfl, Nat.le_of_ble_eq_true rfl⟩ rfl rfl rfl
theorem dX11_choice_97 : decode cX11_choice 97 = .ok (.invokevirtual 193, 3) := by decide +kernel
theorem tX11_choice_97 {d : Nat} {l0 l1 l2 l3 l4 l5 : Option Value} {y0 : Value} {a : Nat} {m : jmM} {Q : Option Value → jmM → Prop} : AW d 168 97 [l0, l1, l2, l3, l4, l5] [y0, .ref a] m Q ↔ (mS m a).1 = 5 ∧ CC d 72 [.ref a, y0] m (jK d 168 100 [l0, l1, l2, l3, l4, l5] [] Q) := A_callV hB_X11_choice dX11_choice_97 hO_X11_choice fS_11_193 ⟨Nat.le_of_ble_eq_true rfl, Nat.le_of_ble_eq_true rfl⟩ rfl rfl rfl
theorem dX11_choice_100 : decode cX11_choice 100 = .ok (.ifCond .eq 18, 3) := by decide +kernel
theorem tX11_choice_100 {d : Nat} {l0 l1 l2 l3 l4 l5 : Option Value} {x : Int32} {m : jmM} {Q : Option Value → jmM → Prop} : AW d 168 100 [l0, l1, l2, l3, l4, l5] [.int x] m Q ↔ if x = 0 then AW d 168 118 [l0, l1, l2, l3, l4, l5] [] m Q else AW d 168 103 [l0, l1, l2, l3, l4, l5] [] m Q := A_if_eq hB_X11_choice dX11_choice_100 (by decide)
theorem dX11_choice_103 : decode cX11_choice 103 = .ok (.aload_n 0, 1) := by decide +kernel
theorem tX11_choice_103 {d : Nat} {l1 l2 l3 l4 l5 : Option Value} {x : Nat} {m : jmM} {Q : Option Value → jmM → Prop} : AW d 168 103 [some (.ref x), l1, l2, l3, l4, l5] [] m Q ↔ AW d 168 104 [some (.ref x), l1, l2, l3, l4, l5] [.ref x] m Q := A_aload_n hB_X11_choice dX11_choice_103 rfl
theorem dX11_choice_104 : decode cX11_choice 104 = .ok (.getfield 60, 3) := by decide +kernel
theorem tX11_choice_104 {d : Nat} {l0 l1 l2 l3 l4 l5 : Option Value} {a : Nat} {m : jmM} {Q : Option Value → jmM → Prop} : AW d 168 104 [l0, l1, l2, l3, l4, l5] [.ref a] m Q ↔ (mS m a).1 = 11 ∧ AW d 168 107 [l0, l1, l2, l3, l4, l5] [va_rf (mR m a 9)] m Q := A_getfield (f := fun m a => va_rf (mR m a 9)) hB_X11_choice dX11_choice_104 hO_X11_choice fF_11_60 rfl
theorem dX11_choice_107 : decode cX11_choice 107 = .ok (.aload_n 0, 1) := by decide +kernel
theorem tX11_choice_107 {d : Nat} {l1 l2 l3 l4 l5 : Option Value} {v0 : Value} {x : Nat} {m : jmM} {Q : Option Value → jmM → Prop} : AW d 168 107 [some (.ref x), l1, l2, l3, l4, l5] [v0] m Q ↔ AW d 168 108 [some (.ref x), l1, l2, l3, l4, l5] [.ref x, v0] m Q := A_aload_n hB_X11_choice dX11_choice_107 rfl
theorem dX11_choice_108 : decode cX11_choice 108 = .ok (.getfield 60, 3) := by decide +kernel
theorem tX11_choice_108 {d : Nat} {l0 l1 l2 l3 l4 l5 : Option Value} {v1 : Value} {a : Nat} {m : jmM} {Q : Option Value → jmM → Prop} : AW d 168 108 [l0, l1, l2, l3, l4, l5] [.ref a, v1] m Q ↔ (mS m a).1 = 11 ∧ AW d 168 111 [l0, l1, l2, l3, l4, l5] [va_rf (mR m a 9), v1] m Q := A_getfield (f := fun m a => va_rf (mR m a 9)) hB_X11_choice dX11_choice_108 hO_X11_choice fF_11_60 rfl
theorem dX11_choice_111 : decode cX11_choice 111 = .ok (.invokevirtual 216, 3) := by decide +kernel
theorem tX11_choice_111 {d : Nat} {l0 l1 l2 l3 l4 l5 : Option Value} {v1 : Value} {a : Nat} {m : jmM} {Q : Option Value → jmM → Prop} : AW d 168 111 [l0, l1, l2, l3, l4, l5] [.ref a, v1] m Q ↔ (mS m a).1 = 5 ∧ CC d 62 [.ref a] m (jK d 168 114 [l0, l1, l2, l3, l4, l5] [v1] Q) := A_callV hB_X11_choice dX11_choice_111 hO_X11_choice fS_11_216 ⟨Nat.le_of_ble_eq_true rfl, Nat.le_of_ble_eq_true rfl⟩ rfl rfl rfl
theorem dX11_choice_114 : decode cX11_choice 114 = .ok (.invokevirtual 232, 3) := by decide +kernel
theorem tX11_choice_114 {d : Nat} {l0 l1 l2 l3 l4 l5 : Option Value} {y0 : Value} {a : Nat} {m : jmM} {Q : Option Value → jmM → Prop} : AW d 168 114 [l0, l1, l2, l3, l4, l5] [y0, .ref a] m Q ↔ (mS m a).1 = 5 ∧ CC d 60 [.ref a, y0] m (jK d 168 117 [l0, l1, l2, l3, l4, l5] [] Q) := A_callV hB_X11_choice dX11_choice_114 hO_X11_choice fS_11_232 ⟨Nat.le_of_ble_eq_true rfl, Nat.le_of_ble_eq_true rfl⟩ rfl rfl rfl
theorem dX11_choice_117 : decode cX11_choice 117 = .ok (.pop, 1) := by decide +kernel
theorem tX11_choice_117 {d : Nat} {l0 l1 l2 l3 l4 l5 : Option Value} {x : Int32} {m : jmM} {Q : Option Value → jmM → Prop} : AW d 168 117 [l0, l1, l2, l3, l4, l5] [.int x] m Q ↔ AW d 168 118 [l0, l1, l2, l3, l4, l5] [] m Q := A_pop_i hB_X11_choice dX11_choice_117
theorem dX11_choice_118 : decode cX11_choice 118 = .ok (.aload_n 0, 1) := by decide +kernel
theorem tX11_choice_118 {d : Nat} {l1 l2 l3 l4 l5 : Option Value} {x : Nat} {m : jmM} {Q : Option Value → jmM → Prop} : AW d 168 118 [some (.ref x), l1, l2, l3, l4, l5] [] m Q ↔ AW d 168 119 [some (.ref x), l1, l2, l3, l4, l5] [.ref x] m Q := A_aload_n hB_X11_choice dX11_choice_118 rfl
theorem dX11_choice_119 : decode cX11_choice 119 = .ok (.getfield 60, 3) := by decide +kernel
theorem tX11_choice_119 {d : Nat} {l0 l1 l2 l3 l4 l5 : Option Value} {a : Nat} {m : jmM} {Q : Option Value → jmM → Prop} : AW d 168 119 [l0, l1, l2, l3, l4, l5] [.ref a] m Q ↔ (mS m a).1 = 11 ∧ AW d 168 122 [l0, l1, l2, l3, l4, l5] [va_rf (mR m a 9)] m Q := A_getfield (f := fun m a => va_rf (mR m a 9)) hB_X11_choice dX11_choice_119 hO_X11_choice fF_11_60 rfl
theorem dX11_choice_122 : decode cX11_choice 122 = .ok (.iload_n 1, 1) := by decide +kernel
theorem tX11_choice_122 {d : Nat} {l0 l2 l3 l4 l5 : Option Value} {v0 : Value} {x : Int32} {m : jmM} {Q : Option Value → jmM → Prop} : AW d 168 122 [l0, some (.int x), l2, l3, l4, l5] [v0] m Q ↔ AW d 168 123 [l0, some (.int x), l2, l3, l4, l5] [.int x, v0] m Q := A_iload_n hB_X11_choice dX11_choice_122 rfl
theorem dX11_choice_123 : decode cX11_choice 123 = .ok (.aload_n 0, 1) := by decide +kernel
theorem tX11_choice_123 {d : Nat} {l1 l2 l3 l4 l5 : Option Value} {v0 v1 : Value} {x : Nat} {m : jmM} {Q : Option Value → jmM → Prop} : AW d 168 123 [some (.ref x), l1, l2, l3, l4, l5] [v0, v1] m Q ↔ AW d 168 124 [some (.ref x), l1, l2, l3, l4, l5] [.ref x, v0, v1] m Q := A_aload_n hB_X11_choice dX11_choice_123 rfl
theorem dX11_choice_124 : decode cX11_choice 124 = .ok (.getfield 38, 3) := by decide +kernel
theorem tX11_choice_124 {d : Nat} {l0 l1 l2 l3 l4 l5 : Option Value} {v1 v2 : Value} {a : Nat} {m : jmM} {Q : Option Value → jmM → Prop} : AW d 168 124 [l0, l1, l2, l3, l4, l5] [.ref a, v1, v2] m Q ↔ (mS m a).1 = 11 ∧ AW d 168 127 [l0, l1, l2, l3, l4, l5] [va_rf (mR m a 4), v1, v2] m Q := A_getfield (f := fun m a => va_rf (mR m a 4)) hB_X11_choice dX11_choice_124 hO_X11_choice fF_11_38 rfl
theorem dX11_choice_127 : decode cX11_choice 127 = .ok (.invokevirtual 166, 3) := by decide +kernel
theorem tX11_choice_127 {d : Nat} {l0 l1 l2 l3 l4 l5 : Option Value} {y0 y1 : Value} {a : Nat} {m : jmM} {Q : Option Value → jmM → Prop} : AW d 168 127 [l0, l1, l2, l3, l4, l5] [y0, y1, .ref a] m Q ↔ (mS m a).1 = 5 ∧ CC d 53 [.ref a, y1, y0] m (jK d 168 130 [l0, l1, l2, l3, l4, l5] [] Q) := A_callV hB_X11_choice dX11_choice_127 hO_X11_choice fS_11_166 ⟨Nat.le_of_ble_eq_true rfl, Nat.le_of_ble_eq_true rfl⟩ rfl rfl rfl
theorem dX11_choice_130 : decode cX11_choice 130 = .ok (.pop, 1) := by decide +kernel
theorem tX11_choice_130 {d : Nat} {l0 l1 l2 l3 l4 l5 : Option Value} {x : Int32} {m : jmM} {Q : Option Value → jmM → Prop} : AW d 168 130 [l0, l1, l2, l3, l4, l5] [.int x] m Q ↔ AW d 168 131 [l0, l1, l2, l3, l4, l5] [] m Q := A_pop_i hB_X11_choice dX11_choice_130
theorem dX11_choice_131 : decode cX11_choice 131 = .ok (.aload_n 0, 1) := by decide +kernel
theorem tX11_choice_131 {d : Nat} {l1 l2 l3 l4 l5 : Option Value} {x : Nat} {m : jmM} {Q : Option Value → jmM → Prop} : AW d 168 131 [some (.ref x), l1, l2, l3, l4, l5] [] m Q ↔ AW d 168 132 [some (.ref x), l1, l2, l3, l4, l5] [.ref x] m Q := A_aload_n hB_X11_choice dX11_choice_131 rfl
theorem dX11_choice_132 : decode cX11_choice 132 = .ok (.aload_n 0, 1) := by decide +kernel
theorem tX11_choice_132 {d : Nat} {l1 l2 l3 l4 l5 : Option Value} {v0 : Value} {x : Nat} {m : jmM} {Q : Option Value → jmM → Prop} : AW d 168 132 [some (.ref x), l1, l2, l3, l4, l5] [v0] m Q ↔ AW d 168 133 [some (.ref x), l1, l2, l3, l4, l5] [.ref x, v0] m Q := A_aload_n hB_X11_choice dX11_choice_132 rfl
theorem dX11_choice_133 : decode cX11_choice 133 = .ok (.getfield 60, 3) := by decide +kernel
theorem tX11_choice_133 {d : Nat} {l0 l1 l2 l3 l4 l5 : Option Value} {v1 : Value} {a : Nat} {m : jmM} {Q : Option Value → jmM → Prop} : AW d 168 133 [l0, l1, l2, l3, l4, l5] [.ref a, v1] m Q ↔ (mS m a).1 = 11 ∧ AW d 168 136 [l0, l1, l2, l3, l4, l5] [va_rf (mR m a 9), v1] m Q := A_getfield (f := fun m a => va_rf (mR m a 9)) hB_X11_choice dX11_choice_133 hO_X11_choice fF_11_60 rfl
theorem dX11_choice_136 : decode cX11_choice 136 = .ok (.invokevirtual 249, 3) := by decide +kernel
theorem tX11_choice_136 {d : Nat} {l0 l1 l2 l3 l4 l5 : Option Value} {y0 : Value} {a : Nat} {m : jmM} {Q : Option Value → jmM → Prop} : AW d 168 136 [l0, l1, l2, l3, l4, l5] [y0, .ref a] m Q ↔ (mS m a).1 = 11 ∧ CC d 178 [.ref a, y0] m (jK d 168 139 [l0, l1, l2, l3, l4, l5] [] Q) := A_callV hB_X11_choice dX11_choice_136 hO_X11_choice fS_11_249 ⟨Nat.le_of_ble_eq_true rfl, Nat.le_of_ble_eq_true rfl⟩ rfl rfl rfl
theorem dX11_choice_139 : decode cX11_choice 139 = .ok (.istore 5, 2) := by decide +kernel
theorem tX11_choice_139 {d : Nat} {l0 l1 l2 l3 l4 l5 : Option Value} {x : Int32} {m : jmM} {Q : Option Value → jmM → Prop} : AW d 168 139 [l0, l1, l2, l3, l4, l5] [.int x] m Q ↔ AW d 168 141 [l0, l1, l2, l3, jc1 l4, some (.int x)] [] m Q := A_istore hB_X11_choice dX11_choice_139 (Nat.le_of_ble_eq_true rfl) rfl
theorem dX11_choice_141 : decode cX11_choice 141 = .ok (.iload_n 2, 1) := by decide +kernel
theorem tX11_choice_141 {d : Nat} {l0 l1 l3 l4 l5 : Option Value} {x : Int32} {m : jmM} {Q : Option Value → jmM → Prop} : AW d 168 141 [l0, l1, some (.int x), l3, l4, l5] [] m Q ↔ AW d 168 142 [l0, l1, some (.int x), l3, l4, l5] [.int x] m Q := A_iload_n hB_X11_choice dX11_choice_141 rfl
theorem dX11_choice_142 : decode cX11_choice 142 = .ok (.tableswitch 34 1 3 #[26, 28, 31], 26) := by decide +kernel
theorem tX11_choice_142 {d : Nat} {l0 l1 l2 l3 l4 l5 : Option Value} {x : Int32} {m : jmM} {Q : Option Value → jmM → Prop} : AW d 168 142 [l0, l1, l2, l3, l4, l5] [.int x] m Q ↔ if x = 1 then AW d 168 168 [l0, l1, l2, l3, l4, l5] [] m Q else if x = 2 then AW d 168 170 [l0, l1, l2, l3, l4, l5] [] m Q else if x = 3 then AW d 168 173 [l0, l1, l2, l3, l4, l5] [] m Q else AW d 168 176 [l0, l1, l2, l3, l4, l5] [] m Q := by
  by_cases h0 : x = 1
  · subst h0; rw [if_pos rfl]; exact A_switch hB_X11_choice dX11_choice_142 (by decide) (by decide)
  rw [if_neg h0]
  have e0 := i32_ne (n := 1) (by decide) h0
  by_cases h1 : x = 2
  · subst h1; rw [if_pos rfl]; exact A_switch hB_X11_choice dX11_choice_142 (by decide) (by decide)
  rw [if_neg h1]
  have e1 := i32_ne (n := 2) (by decide) h1
  by_cases h2 : x = 3
  · subst h2; rw [if_pos rfl]; exact A_switch hB_X11_choice dX11_choice_142 (by decide) (by decide)
  rw [if_neg h2]
  have e2 := i32_ne (n := 3) (by decide) h2
  exact A_switch hB_X11_choice dX11_choice_142 (t := 176) (by decide) (by unfold jsw; rw [if_pos (by omega)]; rfl)
theorem dX11_choice_168 : decode cX11_choice 168 = .ok (.iload_n 3, 1) := by decide +kernel
theorem tX11_choice_168 {d : Nat} {l0 l1 l2 l4 l5 : Option Value} {x : Int32} {m : jmM} {Q : Option Value → jmM → Prop} : AW d 168 168 [l0, l1, l2, some (.int x), l4, l5] [] m Q ↔ AW d 168 169 [l0, l1, l2, some (.int x), l4, l5] [.int x] m Q := A_iload_n hB_X11_choice dX11_choice_168 rfl
theorem dX11_choice_169 : decode cX11_choice 169 = .ok (.ireturn, 1) := by decide +kernel
theorem tX11_choice_169 {d : Nat} {l0 l1 l2 l3 l4 l5 : Option Value} {x : Int32} {m : jmM} {Q : Option Value → jmM → Prop} : AW d 168 169 [l0, l1, l2, l3, l4, l5] [.int x] m Q ↔ Q (some (.int x)) m := A_ireturn hB_X11_choice dX11_choice_169 hR_X11_choice
theorem dX11_choice_170 : decode cX11_choice 170 = .ok (.iload 4, 2) := by decide +kernel
theorem tX11_choice_170 {d : Nat} {l0 l1 l2 l3 l5 : Option Value} {x : Int32} {m : jmM} {Q : Option Value → jmM → Prop} : AW d 168 170 [l0, l1, l2, l3, some (.int x), l5] [] m Q ↔ AW d 168 172 [l0, l1, l2, l3, some (.int x), l5] [.int x] m Q := A_iload hB_X11_choice dX11_choice_170 rfl
theorem dX11_choice_172 : decode cX11_choice 172 = .ok (.ireturn, 1) := by decide +kernel
theorem tX11_choice_172 {d : Nat} {l0 l1 l2 l3 l4 l5 : Option Value} {x : Int32} {m : jmM} {Q : Option Value → jmM → Prop} : AW d 168 172 [l0, l1, l2, l3, l4, l5] [.int x] m Q ↔ Q (some (.int x)) m := A_ireturn hB_X11_choice dX11_choice_172 hR_X11_choice
theorem dX11_choice_173 : decode cX11_choice 173 = .ok (.iload 5, 2) := by decide +kernel
theorem tX11_choice_173 {d : Nat} {l0 l1 l2 l3 l4 : Option Value} {x : Int32} {m : jmM} {Q : Option Value → jmM → Prop} : AW d 168 173 [l0, l1, l2, l3, l4, some (.int x)] [] m Q ↔ AW d 168 175 [l0, l1, l2, l3, l4, some (.int x)] [.int x] m Q := A_iload hB_X11_choice dX11_choice_173 rfl
theorem dX11_choice_175 : decode cX11_choice 175 = .ok (.ireturn, 1) := by decide +kernel
theorem tX11_choice_175 {d : Nat} {l0 l1 l2 l3 l4 l5 : Option Value} {x : Int32} {m : jmM} {Q : Option Value → jmM → Prop} : AW d 168 175 [l0, l1, l2, l3, l4, l5] [.int x] m Q ↔ Q (some (.int x)) m := A_ireturn hB_X11_choice dX11_choice_175 hR_X11_choice
theorem dX11_choice_176 : decode cX11_choice 176 = .ok (.iload_n 3, 1) := by decide +kernel
theorem tX11_choice_176 {d : Nat} {l0 l1 l2 l4 l5 : Option Value} {x : Int32} {m : jmM} {Q : Option Value → jmM → Prop} : AW d 168 176 [l0, l1, l2, some (.int x), l4, l5] [] m Q ↔ AW d 168 177 [l0, l1, l2, some (.int x), l4, l5] [.int x] m Q := A_iload_n hB_X11_choice dX11_choice_176 rfl
theorem dX11_choice_177 : decode cX11_choice 177 = .ok (.iload 4, 2) := by decide +kernel
theorem tX11_choice_177 {d : Nat} {l0 l1 l2 l3 l5 : Option Value} {v0 : Value} {x : Int32} {m : jmM} {Q : Option Value → jmM → Prop} : AW d 168 177 [l0, l1, l2, l3, some (.int x), l5] [v0] m Q ↔ AW d 168 179 [l0, l1, l2, l3, some (.int x), l5] [.int x, v0] m Q := A_iload hB_X11_choice dX11_choice_177 rfl
theorem dX11_choice_179 : decode cX11_choice 179 = .ok (.if_icmp .lt 13, 3) := by decide +kernel
theorem tX11_choice_179 {d : Nat} {l0 l1 l2 l3 l4 l5 : Option Value} {x y : Int32} {m : jmM} {Q : Option Value → jmM → Prop} : AW d 168 179 [l0, l1, l2, l3, l4, l5] [.int y, .int x] m Q ↔ if x < y then AW d 168 192 [l0, l1, l2, l3, l4, l5] [] m Q else AW d 168 182 [l0, l1, l2, l3, l4, l5] [] m Q := A_icmp_lt hB_X11_choice dX11_choice_179 (by decide)
theorem dX11_choice_182 : decode cX11_choice 182 = .ok (.iload_n 3, 1) := by decide +kernel
theorem tX11_choice_182 {d : Nat} {l0 l1 l2 l4 l5 : Option Value} {x : Int32} {m : jmM} {Q : Option Value → jmM → Prop} : AW d 168 182 [l0, l1, l2, some (.int x), l4, l5] [] m Q ↔ AW d 168 183 [l0, l1, l2, some (.int x), l4, l5] [.int x] m Q := A_iload_n hB_X11_choice dX11_choice_182 rfl
theorem dX11_choice_183 : decode cX11_choice 183 = .ok (.iload 5, 2) := by decide +kernel
theorem tX11_choice_183 {d : Nat} {l0 l1 l2 l3 l4 : Option Value} {v0 : Value} {x : Int32} {m : jmM} {Q : Option Value → jmM → Prop} : AW d 168 183 [l0, l1, l2, l3, l4, some (.int x)] [v0] m Q ↔ AW d 168 185 [l0, l1, l2, l3, l4, some (.int x)] [.int x, v0] m Q := A_iload hB_X11_choice dX11_choice_183 rfl
theorem dX11_choice_185 : decode cX11_choice 185 = .ok (.if_icmp .lt 7, 3) := by decide +kernel
theorem tX11_choice_185 {d : Nat} {l0 l1 l2 l3 l4 l5 : Option Value} {x y : Int32} {m : jmM} {Q : Option Value → jmM → Prop} : AW d 168 185 [l0, l1, l2, l3, l4, l5] [.int y, .int x] m Q ↔ if x < y then AW d 168 192 [l0, l1, l2, l3, l4, l5] [] m Q else AW d 168 188 [l0, l1, l2, l3, l4, l5] [] m Q := A_icmp_lt hB_X11_choice dX11_choice_185 (by decide)
theorem dX11_choice_188 : decode cX11_choice 188 = .ok (.iconst 0, 1) := by decide +kernel
theorem tX11_choice_188 {d : Nat} {l0 l1 l2 l3 l4 l5 : Option Value} {m : jmM} {Q : Option Value → jmM → Prop} : AW d 168 188 [l0, l1, l2, l3, l4, l5] [] m Q ↔ AW d 168 189 [l0, l1, l2, l3, l4, l5] [.int 0] m Q := A_iconst hB_X11_choice dX11_choice_188 (by decide)
theorem dX11_choice_189 : decode cX11_choice 189 = .ok (.goto 15, 3) := by decide +kernel
theorem tX11_choice_189 {d : Nat} {l0 l1 l2 l3 l4 l5 : Option Value} {v0 : Value} {m : jmM} {Q : Option Value → jmM → Prop} : AW d 168 189 [l0, l1, l2, l3, l4, l5] [v0] m Q ↔ AW d 168 204 [l0, l1, l2, l3, l4, l5] [v0] m Q := A_goto hB_X11_choice dX11_choice_189 (by decide)
theorem dX11_choice_192 : decode cX11_choice 192 = .ok (.iload 4, 2) := by decide +kernel
theorem tX11_choice_192 {d : Nat} {l0 l1 l2 l3 l5 : Option Value} {x : Int32} {m : jmM} {Q : Option Value → jmM → Prop} : AW d 168 192 [l0, l1, l2, l3, some (.int x), l5] [] m Q ↔ AW d 168 194 [l0, l1, l2, l3, some (.int x), l5] [.int x] m Q := A_iload hB_X11_choice dX11_choice_192 rfl
theorem dX11_choice_194 : decode cX11_choice 194 = .ok (.iload 5, 2) := by decide +kernel
theorem tX11_choice_194 {d : Nat} {l0 l1 l2 l3 l4 : Option Value} {v0 : Value} {x : Int32} {m : jmM} {Q : Option Value → jmM → Prop} : AW d 168 194 [l0, l1, l2, l3, l4, some (.int x)] [v0] m Q ↔ AW d 168 196 [l0, l1, l2, l3, l4, some (.int x)] [.int x, v0] m Q := A_iload hB_X11_choice dX11_choice_194 rfl
theorem dX11_choice_196 : decode cX11_choice 196 = .ok (.if_icmp .lt 7, 3) := by decide +kernel
theorem tX11_choice_196 {d : Nat} {l0 l1 l2 l3 l4 l5 : Option Value} {x y : Int32} {m : jmM} {Q : Option Value → jmM → Prop} : AW d 168 196 [l0, l1, l2, l3, l4, l5] [.int y, .int x] m Q ↔ if x < y then AW d 168 203 [l0, l1, l2, l3, l4, l5] [] m Q else AW d 168 199 [l0, l1, l2, l3, l4, l5] [] m Q := A_icmp_lt hB_X11_choice dX11_choice_196 (by decide)
theorem dX11_choice_199 : decode cX11_choice 199 = .ok (.iconst 1, 1) := by decide +kernel
theorem tX11_choice_199 {d : Nat} {l0 l1 l2 l3 l4 l5 : Option Value} {m : jmM} {Q : Option Value → jmM → Prop} : AW d 168 199 [l0, l1, l2, l3, l4, l5] [] m Q ↔ AW d 168 200 [l0, l1, l2, l3, l4, l5] [.int 1] m Q := A_iconst hB_X11_choice dX11_choice_199 (by decide)
theorem dX11_choice_200 : decode cX11_choice 200 = .ok (.goto 4, 3) := by decide +kernel
theorem tX11_choice_200 {d : Nat} {l0 l1 l2 l3 l4 l5 : Option Value} {v0 : Value} {m : jmM} {Q : Option Value → jmM → Prop} : AW d 168 200 [l0, l1, l2, l3, l4, l5] [v0] m Q ↔ AW d 168 204 [l0, l1, l2, l3, l4, l5] [v0] m Q := A_goto hB_X11_choice dX11_choice_200 (by decide)
theorem dX11_choice_203 : decode cX11_choice 203 = .ok (.iconst 2, 1) := by decide +kernel
theorem tX11_choice_203 {d : Nat} {l0 l1 l2 l3 l4 l5 : Option Value} {m : jmM} {Q : Option Value → jmM → Prop} : AW d 168 203 [l0, l1, l2, l3, l4, l5] [] m Q ↔ AW d 168 204 [l0, l1, l2, l3, l4, l5] [.int 2] m Q := A_iconst hB_X11_choice dX11_choice_203 (by decide)
theorem dX11_choice_204 : decode cX11_choice 204 = .ok (.ireturn, 1) := by decide +kernel
theorem tX11_choice_204 {d : Nat} {l0 l1 l2 l3 l4 l5 : Option Value} {x : Int32} {m : jmM} {Q : Option Value → jmM → Prop} : AW d 168 204 [l0, l1, l2, l3, l4, l5] [.int x] m Q ↔ Q (some (.int x)) m := A_ireturn hB_X11_choice dX11_choice_204 hR_X11_choice
theorem hB_X11_piece : jB 169 = cX11_piece := rfl
theorem hO_X11_piece : jO 169 = 11 := rfl
theorem hR_X11_piece : jRt 169 = (some .int) := rfl
theorem nX11_piece (d : Nat) (x0 : Nat) (x1 : Int32) (x2 : Int32) (m : jmM) (Q : Option Value → jmM → Prop) : CC (d + 1) 169 [.ref x0, .int x1, .int x2] m Q ↔ AW d 169 0 [some (.ref x0), some (.int x1), some (.int x2), none] [] m Q := CC_body (Nat.le_of_ble_eq_true rfl)
theorem dX11_piece_0 : decode cX11_piece 0 = .ok (.aload_n 0, 1) := by decide +kernel
theorem tX11_piece_0 {d : Nat} {l1 l2 l3 : Option Value} {x : Nat} {m : jmM} {Q : Option Value → jmM → Prop} : AW d 169 0 [some (.ref x), l1, l2, l3] [] m Q ↔ AW d 169 1 [some (.ref x), l1, l2, l3] [.ref x] m Q := A_aload_n hB_X11_piece dX11_piece_0 rfl
theorem dX11_piece_1 : decode cX11_piece 1 = .ok (.getfield 81, 3) := by decide +kernel
theorem tX11_piece_1 {d : Nat} {l0 l1 l2 l3 : Option Value} {a : Nat} {m : jmM} {Q : Option Value → jmM → Prop} : AW d 169 1 [l0, l1, l2, l3] [.ref a] m Q ↔ (mS m a).1 = 11 ∧ AW d 169 4 [l0, l1, l2, l3] [va_rf (mR m a 13)] m Q := A_getfield (f := fun m a => va_rf (mR m a 13)) hB_X11_piece dX11_piece_1 hO_X11_piece fF_11_81 rfl
theorem dX11_piece_4 : decode cX11_piece 4 = .ok (.aload_n 0, 1) := by decide +kernel
theorem tX11_piece_4 {d : Nat} {l1 l2 l3 : Option Value} {v0 : Value} {x : Nat} {m : jmM} {Q : Option Value → jmM → Prop} : AW d 169 4 [some (.ref x), l1, l2, l3] [v0] m Q ↔ AW d 169 5 [some (.ref x), l1, l2, l3] [.ref x, v0] m Q := A_aload_n hB_X11_piece dX11_piece_4 rfl
theorem dX11_piece_5 : decode cX11_piece 5 = .ok (.getfield 56, 3) := by decide +kernel
theorem tX11_piece_5 {d : Nat} {l0 l1 l2 l3 : Option Value} {v1 : Value} {a : Nat} {m : jmM} {Q : Option Value → jmM → Prop} : AW d 169 5 [l0, l1, l2, l3] [.ref a, v1] m Q ↔ (mS m a).1 = 11 ∧ AW d 169 8 [l0, l1, l2, l3] [va_rf (mR m a 8), v1] m Q := A_getfield (f := fun m a => va_rf (mR m a 8)) hB_X11_piece dX11_piece_5 hO_X11_piece fF_11_56 rfl
theorem dX11_piece_8 : decode cX11_piece 8 = .ok (.aload_n 0, 1) := by decide +kernel
theorem tX11_piece_8 {d : Nat} {l1 l2 l3 : Option Value} {v0 v1 : Value} {x : Nat} {m : jmM} {Q : Option Value → jmM → Prop} : AW d 169 8 [some (.ref x), l1, l2, l3] [v0, v1] m Q ↔ AW d 169 9 [some (.ref x), l1, l2, l3] [.ref x, v0, v1] m Q := A_aload_n hB_X11_piece dX11_piece_8 rfl
theorem dX11_piece_9 : decode cX11_piece 9 = .ok (.getfield 49, 3) := by decide +kernel
theorem tX11_piece_9 {d : Nat} {l0 l1 l2 l3 : Option Value} {v1 v2 : Value} {a : Nat} {m : jmM} {Q : Option Value → jmM → Prop} : AW d 169 9 [l0, l1, l2, l3] [.ref a, v1, v2] m Q ↔ (mS m a).1 = 11 ∧ AW d 169 12 [l0, l1, l2, l3] [.int (mI m a 7), v1, v2] m Q := A_getfield (f := fun m a => .int (mI m a 7)) hB_X11_piece dX11_piece_9 hO_X11_piece fF_11_49 rfl
theorem dX11_piece_12 : decode cX11_piece 12 = .ok (.aload_n 0, 1) := by decide +kernel
theorem tX11_piece_12 {d : Nat} {l1 l2 l3 : Option Value} {v0 v1 v2 : Value} {x : Nat} {m : jmM} {Q : Option Value → jmM → Prop} : AW d 169 12 [some (.ref x), l1, l2, l3] [v0, v1, v2] m Q ↔ AW d 169 13 [some (.ref x), l1, l2, l3] [.ref x, v0, v1, v2] m Q := A_aload_n hB_X11_piece dX11_piece_12 rfl
theorem dX11_piece_13 : decode cX11_piece 13 = .ok (.getfield 71, 3) := by decide +kernel
theorem tX11_piece_13 {d : Nat} {l0 l1 l2 l3 : Option Value} {v1 v2 v3 : Value} {a : Nat} {m : jmM} {Q : Option Value → jmM → Prop} : AW d 169 13 [l0, l1, l2, l3] [.ref a, v1, v2, v3] m Q ↔ (mS m a).1 = 11 ∧ AW d 169 16 [l0, l1, l2, l3] [va_rf (mR m a 11), v1, v2, v3] m Q := A_getfield (f := fun m a => va_rf (mR m a 11)) hB_X11_piece dX11_piece_13 hO_X11_piece fF_11_71 rfl
theorem dX11_piece_16 : decode cX11_piece 16 = .ok (.aload_n 0, 1) := by decide +kernel
theorem tX11_piece_16 {d : Nat} {l1 l2 l3 : Option Value} {v0 v1 v2 v3 : Value} {x : Nat} {m : jmM} {Q : Option Value → jmM → Prop} : AW d 169 16 [some (.ref x), l1, l2, l3] [v0, v1, v2, v3] m Q ↔ AW d 169 17 [some (.ref x), l1, l2, l3] [.ref x, v0, v1, v2, v3] m Q := A_aload_n hB_X11_piece dX11_piece_16 rfl
theorem dX11_piece_17 : decode cX11_piece 17 = .ok (.getfield 75, 3) := by decide +kernel
theorem tX11_piece_17 {d : Nat} {l0 l1 l2 l3 : Option Value} {v1 v2 v3 v4 : Value} {a : Nat} {m : jmM} {Q : Option Value → jmM → Prop} : AW d 169 17 [l0, l1, l2, l3] [.ref a, v1, v2, v3, v4] m Q ↔ (mS m a).1 = 11 ∧ AW d 169 20 [l0, l1, l2, l3] [.int (mI m a 12), v1, v2, v3, v4] m Q := A_getfield (f := fun m a => .int (mI m a 12)) hB_X11_piece dX11_piece_17 hO_X11_piece fF_11_75 rfl
theorem dX11_piece_20 : decode cX11_piece 20 = .ok (.invokevirtual 253, 3) := by decide +kernel
theorem tX11_piece_20 {d : Nat} {l0 l1 l2 l3 : Option Value} {y0 y1 y2 y3 : Value} {a : Nat} {m : jmM} {Q : Option Value → jmM → Prop} : AW d 169 20 [l0, l1, l2, l3] [y0, y1, y2, y3, .ref a] m Q ↔ (mS m a).1 = 0 ∧ CC d 1 [.ref a, y3, y2, y1, y0] m (jK d 169 23 [l0, l1, l2, l3] [] Q) := A_callV hB_X11_piece dX11_piece_20 hO_X11_piece fS_11_253 ⟨Nat.le_of_ble_eq_true rfl, Nat.le_of_ble_eq_true rfl⟩ rfl rfl rfl
theorem dX11_piece_23 : decode cX11_piece 23 = .ok (.iload_n 1, 1) := by decide +kernel
theorem tX11_piece_23 {d : Nat} {l0 l2 l3 : Option Value} {x : Int32} {m : jmM} {Q : Option Value → jmM → Prop} : AW d 169 23 [l0, some (.int x), l2, l3] [] m Q ↔ AW d 169 24 [l0, some (.int x), l2, l3] [.int x] m Q := A_iload_n hB_X11_piece dX11_piece_23 rfl
theorem dX11_piece_24 : decode cX11_piece 24 = .ok (.iconst (-1), 1) := by decide +kernel
theorem tX11_piece_24 {d : Nat} {l0 l1 l2 l3 : Option Value} {v0 : Value} {m : jmM} {Q : Option Value → jmM → Prop} : AW d 169 24 [l0, l1, l2, l3] [v0] m Q ↔ AW d 169 25 [l0, l1, l2, l3] [.int (-1), v0] m Q := A_iconst hB_X11_piece dX11_piece_24 (by decide)
theorem dX11_piece_25 : decode cX11_piece 25 = .ok (.if_icmp .ne 11, 3) := by decide +kernel
theorem tX11_piece_25 {d : Nat} {l0 l1 l2 l3 : Option Value} {x y : Int32} {m : jmM} {Q : Option Value → jmM → Prop} : AW d 169 25 [l0, l1, l2, l3] [.int y, .int x] m Q ↔ if x = y then AW d 169 28 [l0, l1, l2, l3] [] m Q else AW d 169 36 [l0, l1, l2, l3] [] m Q := A_icmp_ne hB_X11_piece dX11_piece_25 (by decide)
theorem dX11_piece_28 : decode cX11_piece 28 = .ok (.aload_n 0, 1) := by decide +kernel
theorem tX11_piece_28 {d : Nat} {l1 l2 l3 : Option Value} {x : Nat} {m : jmM} {Q : Option Value → jmM → Prop} : AW d 169 28 [some (.ref x), l1, l2, l3] [] m Q ↔ AW d 169 29 [some (.ref x), l1, l2, l3] [.ref x] m Q := A_aload_n hB_X11_piece dX11_piece_28 rfl
theorem dX11_piece_29 : decode cX11_piece 29 = .ok (.getfield 81, 3) := by decide +kernel
theorem tX11_piece_29 {d : Nat} {l0 l1 l2 l3 : Option Value} {a : Nat} {m : jmM} {Q : Option Value → jmM → Prop} : AW d 169 29 [l0, l1, l2, l3] [.ref a] m Q ↔ (mS m a).1 = 11 ∧ AW d 169 32 [l0, l1, l2, l3] [va_rf (mR m a 13)] m Q := A_getfield (f := fun m a => va_rf (mR m a 13)) hB_X11_piece dX11_piece_29 hO_X11_piece fF_11_81 rfl
theorem dX11_piece_32 : decode cX11_piece 32 = .ok (.invokevirtual 305, 3) := by decide +kernel
theorem tX11_piece_32 {d : Nat} {l0 l1 l2 l3 : Option Value} {a : Nat} {m : jmM} {Q : Option Value → jmM → Prop} : AW d 169 32 [l0, l1, l2, l3] [.ref a] m Q ↔ (mS m a).1 = 0 ∧ CC d 5 [.ref a] m (jK d 169 35 [l0, l1, l2, l3] [] Q) := A_callV hB_X11_piece dX11_piece_32 hO_X11_piece fS_11_305 ⟨Nat.le_of_ble_eq_true rfl, Nat.le_of_ble_eq_true rfl⟩ rfl rfl rfl
theorem dX11_piece_35 : decode cX11_piece 35 = .ok (.ireturn, 1) := by decide +kernel
theorem tX11_piece_35 {d : Nat} {l0 l1 l2 l3 : Option Value} {x : Int32} {m : jmM} {Q : Option Value → jmM → Prop} : AW d 169 35 [l0, l1, l2, l3] [.int x] m Q ↔ Q (some (.int x)) m := A_ireturn hB_X11_piece dX11_piece_35 hR_X11_piece
theorem dX11_piece_36 : decode cX11_piece 36 = .ok (.aload_n 0, 1) := by decide +kernel
theorem tX11_piece_36 {d : Nat} {l1 l2 l3 : Option Value} {x : Nat} {m : jmM} {Q : Option Value → jmM → Prop} : AW d 169 36 [some (.ref x), l1, l2, l3] [] m Q ↔ AW d 169 37 [some (.ref x), l1, l2, l3] [.ref x] m Q := A_aload_n hB_X11_piece dX11_piece_36 rfl
theorem dX11_piece_37 : decode cX11_piece 37 = .ok (.getfield 81, 3) := by decide +kernel
theorem tX11_piece_37 {d : Nat} {l0 l1 l2 l3 : Option Value} {a : Nat} {m : jmM} {Q : Option Value → jmM → Prop} : AW d 169 37 [l0, l1, l2, l3] [.ref a] m Q ↔ (mS m a).1 = 11 ∧ AW d 169 40 [l0, l1, l2, l3] [va_rf (mR m a 13)] m Q := A_getfield (f := fun m a => va_rf (mR m a 13)) hB_X11_piece dX11_piece_37 hO_X11_piece fF_11_81 rfl
theorem dX11_piece_40 : decode cX11_piece 40 = .ok (.iload_n 1, 1) := by decide +kernel
theorem tX11_piece_40 {d : Nat} {l0 l2 l3 : Option Value} {v0 : Value} {x : Int32} {m : jmM} {Q : Option Value → jmM → Prop} : AW d 169 40 [l0, some (.int x), l2, l3] [v0] m Q ↔ AW d 169 41 [l0, some (.int x), l2, l3] [.int x, v0] m Q := A_iload_n hB_X11_piece dX11_piece_40 rfl
theorem dX11_piece_41 : decode cX11_piece 41 = .ok (.invokevirtual 308, 3) := by decide +kernel
theorem tX11_piece_41 {d : Nat} {l0 l1 l2 l3 : Option Value} {y0 : Value} {a : Nat} {m : jmM} {Q : Option Value → jmM → Prop} : AW d 169 41 [l0, l1, l2, l3] [y0, .ref a] m Q ↔ (mS m a).1 = 0 ∧ CC d 6 [.ref a, y0] m (jK d 169 44 [l0, l1, l2, l3] [] Q) := A_callV hB_X11_piece dX11_piece_41 hO_X11_piece fS_11_308 ⟨Nat.le_of_ble_eq_true rfl, Nat.le_of_ble_eq_true rfl⟩ rfl rfl rfl
theorem dX11_piece_44 : decode cX11_piece 44 = .ok (.istore_n 3, 1) := by decide +kernel
theorem tX11_piece_44 {d : Nat} {l0 l1 l2 l3 : Option Value} {x : Int32} {m : jmM} {Q : Option Value → jmM → Prop} : AW d 169 44 [l0, l1, l2, l3] [.int x] m Q ↔ AW d 169 45 [l0, l1, jc1 l2, some (.int x)] [] m Q := A_istore_n hB_X11_piece dX11_piece_44 (Nat.le_of_ble_eq_true rfl) rfl
theorem dX11_piece_45 : decode cX11_piece 45 = .ok (.iload_n 3, 1) := by decide +kernel
theorem tX11_piece_45 {d : Nat} {l0 l1 l2 : Option Value} {x : Int32} {m : jmM} {Q : Option Value → jmM → Prop} : AW d 169 45 [l0, l1, l2, some (.int x)] [] m Q ↔ AW d 169 46 [l0, l1, l2, some (.int x)] [.int x] m Q := A_iload_n hB_X11_piece dX11_piece_45 rfl
theorem dX11_piece_46 : decode cX11_piece 46 = .ok (.iconst (-1), 1) := by decide +kernel
theorem tX11_piece_46 {d : Nat} {l0 l1 l2 l3 : Option Value} {v0 : Value} {m : jmM} {Q : Option Value → jmM → Prop} : AW d 169 46 [l0, l1, l2, l3] [v0] m Q ↔ AW d 169 47 [l0, l1, l2, l3] [.int (-1), v0] m Q := A_iconst hB_X11_piece dX11_piece_46 (by decide)
theorem dX11_piece_47 : decode cX11_piece 47 = .ok (.if_icmp .ne 5, 3) := by decide +kernel
theorem tX11_piece_47 {d : Nat} {l0 l1 l2 l3 : Option Value} {x y : Int32} {m : jmM} {Q : Option Value → jmM → Prop} : AW d 169 47 [l0, l1, l2, l3] [.int y, .int x] m Q ↔ if x = y then AW d 169 50 [l0, l1, l2, l3] [] m Q else AW d 169 52 [l0, l1, l2, l3] [] m Q := A_icmp_ne hB_X11_piece dX11_piece_47 (by decide)
theorem dX11_piece_50 : decode cX11_piece 50 = .ok (.iconst (-1), 1) := by decide +kernel
theorem tX11_piece_50 {d : Nat} {l0 l1 l2 l3 : Option Value} {m : jmM} {Q : Option Value → jmM → Prop} : AW d 169 50 [l0, l1, l2, l3] [] m Q ↔ AW d 169 51 [l0, l1, l2, l3] [.int (-1)] m Q := A_iconst hB_X11_piece dX11_piece_50 (by decide)
theorem dX11_piece_51 : decode cX11_piece 51 = .ok (.ireturn, 1) := by decide +kernel
theorem tX11_piece_51 {d : Nat} {l0 l1 l2 l3 : Option Value} {x : Int32} {m : jmM} {Q : Option Value → jmM → Prop} : AW d 169 51 [l0, l1, l2, l3] [.int x] m Q ↔ Q (some (.int x)) m := A_ireturn hB_X11_piece dX11_piece_51 hR_X11_piece
theorem dX11_piece_52 : decode cX11_piece 52 = .ok (.iload_n 2, 1) := by decide +kernel
theorem tX11_piece_52 {d : Nat} {l0 l1 l3 : Option Value} {x : Int32} {m : jmM} {Q : Option Value → jmM → Prop} : AW d 169 52 [l0, l1, some (.int x), l3] [] m Q ↔ AW d 169 53 [l0, l1, some (.int x), l3] [.int x] m Q := A_iload_n hB_X11_piece dX11_piece_52 rfl
theorem dX11_piece_53 : decode cX11_piece 53 = .ok (.tableswitch 60 0 3 #[31, 33, 42, 51], 31) := by decide +kernel
theorem tX11_piece_53 {d : Nat} {l0 l1 l2 l3 : Option Value} {x : Int32} {m : jmM} {Q : Option Value → jmM → Prop} : AW d 169 53 [l0, l1, l2, l3] [.int x] m Q ↔ if x = 0 then AW d 169 84 [l0, l1, l2, l3] [] m Q else if x = 1 then AW d 169 86 [l0, l1, l2, l3] [] m Q else if x = 2 then AW d 169 95 [l0, l1, l2, l3] [] m Q else if x = 3 then AW d 169 104 [l0, l1, l2, l3] [] m Q else AW d 169 113 [l0, l1, l2, l3] [] m Q := by
  by_cases h0 : x = 0
  · subst h0; rw [if_pos rfl]; exact A_switch hB_X11_piece dX11_piece_53 (by decide) (by decide)
  rw [if_neg h0]
  have e0 := i32_ne (n := 0) (by decide) h0
  by_cases h1 : x = 1
  · subst h1; rw [if_pos rfl]; exact A_switch hB_X11_piece dX11_piece_53 (by decide) (by decide)
  rw [if_neg h1]
  have e1 := i32_ne (n := 1) (by decide) h1
  by_cases h2 : x = 2
  · subst h2; rw [if_pos rfl]; exact A_switch hB_X11_piece dX11_piece_53 (by decide) (by decide)
  rw [if_neg h2]
  have e2 := i32_ne (n := 2) (by decide) h2
  by_cases h3 : x = 3
  · subst h3; rw [if_pos rfl]; exact A_switch hB_X11_piece dX11_piece_53 (by decide) (by decide)
  rw [if_neg h3]
  have e3 := i32_ne (n := 3) (by decide) h3
  exact A_switch hB_X11_piece dX11_piece_53 (t := 113) (by decide) (by unfold jsw; rw [if_pos (by omega)]; rfl)
theorem dX11_piece_84 : decode cX11_piece 84 = .ok (.iload_n 3, 1) := by decide +kernel
theorem tX11_piece_84 {d : Nat} {l0 l1 l2 : Option Value} {x : Int32} {m : jmM} {Q : Option Value → jmM → Prop} : AW d 169 84 [l0, l1, l2, some (.int x)] [] m Q ↔ AW d 169 85 [l0, l1, l2, some (.int x)] [.int x] m Q := A_iload_n hB_X11_piece dX11_piece_84 rfl
theorem dX11_piece_85 : decode cX11_piece 85 = .ok (.ireturn, 1) := by decide +kernel
theorem tX11_piece_85 {d : Nat} {l0 l1 l2 l3 : Option Value} {x : Int32} {m : jmM} {Q : Option Value → jmM → Prop} : AW d 169 85 [l0, l1, l2, l3] [.int x] m Q ↔ Q (some (.int x)) m := A_ireturn hB_X11_piece dX11_piece_85 hR_X11_piece
theorem dX11_piece_86 : decode cX11_piece 86 = .ok (.aload_n 0, 1) := by decide +kernel
theorem tX11_piece_86 {d : Nat} {l1 l2 l3 : Option Value} {x : Nat} {m : jmM} {Q : Option Value → jmM → Prop} : AW d 169 86 [some (.ref x), l1, l2, l3] [] m Q ↔ AW d 169 87 [some (.ref x), l1, l2, l3] [.ref x] m Q := A_aload_n hB_X11_piece dX11_piece_86 rfl
theorem dX11_piece_87 : decode cX11_piece 87 = .ok (.getfield 81, 3) := by decide +kernel
theorem tX11_piece_87 {d : Nat} {l0 l1 l2 l3 : Option Value} {a : Nat} {m : jmM} {Q : Option Value → jmM → Prop} : AW d 169 87 [l0, l1, l2, l3] [.ref a] m Q ↔ (mS m a).1 = 11 ∧ AW d 169 90 [l0, l1, l2, l3] [va_rf (mR m a 13)] m Q := A_getfield (f := fun m a => va_rf (mR m a 13)) hB_X11_piece dX11_piece_87 hO_X11_piece fF_11_81 rfl
theorem dX11_piece_90 : decode cX11_piece 90 = .ok (.iload_n 3, 1) := by decide +kernel
theorem tX11_piece_90 {d : Nat} {l0 l1 l2 : Option Value} {v0 : Value} {x : Int32} {m : jmM} {Q : Option Value → jmM → Prop} : AW d 169 90 [l0, l1, l2, some (.int x)] [v0] m Q ↔ AW d 169 91 [l0, l1, l2, some (.int x)] [.int x, v0] m Q := A_iload_n hB_X11_piece dX11_piece_90 rfl
theorem dX11_piece_91 : decode cX11_piece 91 = .ok (.invokevirtual 311, 3) := by decide +kernel
theorem tX11_piece_91 {d : Nat} {l0 l1 l2 l3 : Option Value} {y0 : Value} {a : Nat} {m : jmM} {Q : Option Value → jmM → Prop} : AW d 169 91 [l0, l1, l2, l3] [y0, .ref a] m Q ↔ (mS m a).1 = 0 ∧ CC d 8 [.ref a, y0] m (jK d 169 94 [l0, l1, l2, l3] [] Q) := A_callV hB_X11_piece dX11_piece_91 hO_X11_piece fS_11_311 ⟨Nat.le_of_ble_eq_true rfl, Nat.le_of_ble_eq_true rfl⟩ rfl rfl rfl
theorem dX11_piece_94 : decode cX11_piece 94 = .ok (.ireturn, 1) := by decide +kernel
theorem tX11_piece_94 {d : Nat} {l0 l1 l2 l3 : Option Value} {x : Int32} {m : jmM} {Q : Option Value → jmM → Prop} : AW d 169 94 [l0, l1, l2, l3] [.int x] m Q ↔ Q (some (.int x)) m := A_ireturn hB_X11_piece dX11_piece_94 hR_X11_piece
theorem dX11_piece_95 : decode cX11_piece 95 = .ok (.aload_n 0, 1) := by decide +kernel
theorem tX11_piece_95 {d : Nat} {l1 l2 l3 : Option Value} {x : Nat} {m : jmM} {Q : Option Value → jmM → Prop} : AW d 169 95 [some (.ref x), l1, l2, l3] [] m Q ↔ AW d 169 96 [some (.ref x), l1, l2, l3] [.ref x] m Q := A_aload_n hB_X11_piece dX11_piece_95 rfl
theorem dX11_piece_96 : decode cX11_piece 96 = .ok (.getfield 81, 3) := by decide +kernel
theorem tX11_piece_96 {d : Nat} {l0 l1 l2 l3 : Option Value} {a : Nat} {m : jmM} {Q : Option Value → jmM → Prop} : AW d 169 96 [l0, l1, l2, l3] [.ref a] m Q ↔ (mS m a).1 = 11 ∧ AW d 169 99 [l0, l1, l2, l3] [va_rf (mR m a 13)] m Q := A_getfield (f := fun m a => va_rf (mR m a 13)) hB_X11_piece dX11_piece_96 hO_X11_piece fF_11_81 rfl
theorem dX11_piece_99 : decode cX11_piece 99 = .ok (.iload_n 3, 1) := by decide +kernel
theorem tX11_piece_99 {d : Nat} {l0 l1 l2 : Option Value} {v0 : Value} {x : Int32} {m : jmM} {Q : Option Value → jmM → Prop} : AW d 169 99 [l0, l1, l2, some (.int x)] [v0] m Q ↔ AW d 169 100 [l0, l1, l2, some (.int x)] [.int x, v0] m Q := A_iload_n hB_X11_piece dX11_piece_99 rfl
theorem dX11_piece_100 : decode cX11_piece 100 = .ok (.invokevirtual 257, 3) := by decide +kernel
theorem tX11_piece_100 {d : Nat} {l0 l1 l2 l3 : Option Value} {y0 : Value} {a : Nat} {m : jmM} {Q : Option Value → jmM → Prop} : AW d 169 100 [l0, l1, l2, l3] [y0, .ref a] m Q ↔ (mS m a).1 = 0 ∧ CC d 7 [.ref a, y0] m (jK d 169 103 [l0, l1, l2, l3] [] Q) := A_callV hB_X11_piece dX11_piece_100 hO_X11_piece fS_11_257 ⟨Nat.le_of_ble_eq_true rfl, Nat.le_of_ble_eq_true rfl⟩ rfl rfl rfl
theorem dX11_piece_103 : decode cX11_piece 103 = .ok (.ireturn, 1) := by decide +kernel
theorem tX11_piece_103 {d : Nat} {l0 l1 l2 l3 : Option Value} {x : Int32} {m : jmM} {Q : Option Value → jmM → Prop} : AW d 169 103 [l0, l1, l2, l3] [.int x] m Q ↔ Q (some (.int x)) m := A_ireturn hB_X11_piece dX11_piece_103 hR_X11_piece
theorem dX11_piece_104 : decode cX11_piece 104 = .ok (.aload_n 0, 1) := by decide +kernel
theorem tX11_piece_104 {d : Nat} {l1 l2 l3 : Option Value} {x : Nat} {m : jmM} {Q : Option Value → jmM → Prop} : AW d 169 104 [some (.ref x), l1, l2, l3] [] m Q ↔ AW d 169 105 [some (.ref x), l1, l2, l3] [.ref x] m Q := A_aload_n hB_X11_piece dX11_piece_104 rfl
theorem dX11_piece_105 : decode cX11_piece 105 = .ok (.getfield 81, 3) := by decide +kernel
theorem tX11_piece_105 {d : Nat} {l0 l1 l2 l3 : Option Value} {a : Nat} {m : jmM} {Q : Option Value → jmM → Prop} : AW d 169 105 [l0, l1, l2, l3] [.ref a] m Q ↔ (mS m a).1 = 11 ∧ AW d 169 108 [l0, l1, l2, l3] [va_rf (mR m a 13)] m Q := A_getfield (f := fun m a => va_rf (mR m a 13)) hB_X11_piece dX11_piece_105 hO_X11_piece fF_11_81 rfl
theorem dX11_piece_108 : decode cX11_piece 108 = .ok (.iload_n 3, 1) := by decide +kernel
theorem tX11_piece_108 {d : Nat} {l0 l1 l2 : Option Value} {v0 : Value} {x : Int32} {m : jmM} {Q : Option Value → jmM → Prop} : AW d 169 108 [l0, l1, l2, some (.int x)] [v0] m Q ↔ AW d 169 109 [l0, l1, l2, some (.int x)] [.int x, v0] m Q := A_iload_n hB_X11_piece dX11_piece_108 rfl
theorem dX11_piece_109 : decode cX11_piece 109 = .ok (.invokevirtual 314, 3) := by decide +kernel
theorem tX11_piece_109 {d : Nat} {l0 l1 l2 l3 : Option Value} {y0 : Value} {a : Nat} {m : jmM} {Q : Option Value → jmM → Prop} : AW d 169 109 [l0, l1, l2, l3] [y0, .ref a] m Q ↔ (mS m a).1 = 0 ∧ CC d 9 [.ref a, y0] m (jK d 169 112 [l0, l1, l2, l3] [] Q) := A_callV hB_X11_piece dX11_piece_109 hO_X11_piece fS_11_314 ⟨Nat.le_of_ble_eq_true rfl, Nat.le_of_ble_eq_true rfl⟩ rfl rfl rfl
theorem dX11_piece_112 : decode cX11_piece 112 = .ok (.ireturn, 1) := by decide +kernel
theorem tX11_piece_112 {d : Nat} {l0 l1 l2 l3 : Option Value} {x : Int32} {m : jmM} {Q : Option Value → jmM → Prop} : AW d 169 112 [l0, l1, l2, l3] [.int x] m Q ↔ Q (some (.int x)) m := A_ireturn hB_X11_piece dX11_piece_112 hR_X11_piece
theorem dX11_piece_113 : decode cX11_piece 113 = .ok (.iconst (-1), 1) := by decide +kernel
theorem tX11_piece_113 {d : Nat} {l0 l1 l2 l3 : Option Value} {m : jmM} {Q : Option Value → jmM → Prop} : AW d 169 113 [l0, l1, l2, l3] [] m Q ↔ AW d 169 114 [l0, l1, l2, l3] [.int (-1)] m Q := A_iconst hB_X11_piece dX11_piece_113 (by decide)
theorem dX11_piece_114 : decode cX11_piece 114 = .ok (.ireturn, 1) := by decide +kernel
theorem tX11_piece_114 {d : Nat} {l0 l1 l2 l3 : Option Value} {x : Int32} {m : jmM} {Q : Option Value → jmM → Prop} : AW d 169 114 [l0, l1, l2, l3] [.int x] m Q ↔ Q (some (.int x)) m := A_ireturn hB_X11_piece dX11_piece_114 hR_X11_piece
theorem hB_X11_why : jB 170 = cX11_why := rfl
theorem hO_X11_why : jO 170 = 11 := rfl
theorem hR_X11_why : jRt 170 = (some .int) := rfl
theorem nX11_why (d : Nat) (x0 : Nat) (x1 : Int32) (x2 : Int32) (m : jmM) (Q : Option Value → jmM → Prop) : CC (d + 1) 170 [.ref x0, .int x1, .int x2] m Q ↔ AW d 170 0 [some (.ref x0), some (.int x1), some (.int x2)] [] m Q := CC_body (Nat.le_of_ble_eq_true rfl)
theorem dX11_why_0 : decode cX11_why 0 = .ok (.aload_n 0, 1) := by decide +kernel
theorem tX11_why_0 {d : Nat} {l1 l2 : Option Value} {x : Nat} {m : jmM} {Q : Option Value → jmM → Prop} : AW d 170 0 [some (.ref x), l1, l2] [] m Q ↔ AW d 170 1 [some (.ref x), l1, l2] [.ref x] m Q := A_aload_n hB_X11_why dX11_why_0 rfl
theorem dX11_why_1 : decode cX11_why 1 = .ok (.getfield 56, 3) := by decide +kernel
theorem tX11_why_1 {d : Nat} {l0 l1 l2 : Option Value} {a : Nat} {m : jmM} {Q : Option Value → jmM → Prop} : AW d 170 1 [l0, l1, l2] [.ref a] m Q ↔ (mS m a).1 = 11 ∧ AW d 170 4 [l0, l1, l2] [va_rf (mR m a 8)] m Q := A_getfield (f := fun m a => va_rf (mR m a 8)) hB_X11_why dX11_why_1 hO_X11_why fF_11_56 rfl
theorem dX11_why_4 : decode cX11_why 4 = .ok (.iload_n 1, 1) := by decide +kernel
theorem tX11_why_4 {d : Nat} {l0 l2 : Option Value} {v0 : Value} {x : Int32} {m : jmM} {Q : Option Value → jmM → Prop} : AW d 170 4 [l0, some (.int x), l2] [v0] m Q ↔ AW d 170 5 [l0, some (.int x), l2] [.int x, v0] m Q := A_iload_n hB_X11_why dX11_why_4 rfl
theorem dX11_why_5 : decode cX11_why 5 = .ok (.invokevirtual 193, 3) := by decide +kernel
theorem tX11_why_5 {d : Nat} {l0 l1 l2 : Option Value} {y0 : Value} {a : Nat} {m : jmM} {Q : Option Value → jmM → Prop} : AW d 170 5 [l0, l1, l2] [y0, .ref a] m Q ↔ (mS m a).1 = 5 ∧ CC d 72 [.ref a, y0] m (jK d 170 8 [l0, l1, l2] [] Q) := A_callV hB_X11_why dX11_why_5 hO_X11_why fS_11_193 ⟨Nat.le_of_ble_eq_true rfl, Nat.le_of_ble_eq_true rfl⟩ rfl rfl rfl
theorem dX11_why_8 : decode cX11_why 8 = .ok (.ifCond .eq 24, 3) := by decide +kernel
theorem tX11_why_8 {d : Nat} {l0 l1 l2 : Option Value} {x : Int32} {m : jmM} {Q : Option Value → jmM → Prop} : AW d 170 8 [l0, l1, l2] [.int x] m Q ↔ if x = 0 then AW d 170 32 [l0, l1, l2] [] m Q else AW d 170 11 [l0, l1, l2] [] m Q := A_if_eq hB_X11_why dX11_why_8 (by decide)
theorem dX11_why_11 : decode cX11_why 11 = .ok (.iload_n 2, 1) := by decide +kernel
theorem tX11_why_11 {d : Nat} {l0 l1 : Option Value} {x : Int32} {m : jmM} {Q : Option Value → jmM → Prop} : AW d 170 11 [l0, l1, some (.int x)] [] m Q ↔ AW d 170 12 [l0, l1, some (.int x)] [.int x] m Q := A_iload_n hB_X11_why dX11_why_11 rfl
theorem dX11_why_12 : decode cX11_why 12 = .ok (.ifCond .lt 20, 3) := by decide +kernel
theorem tX11_why_12 {d : Nat} {l0 l1 l2 : Option Value} {x : Int32} {m : jmM} {Q : Option Value → jmM → Prop} : AW d 170 12 [l0, l1, l2] [.int x] m Q ↔ if x < 0 then AW d 170 32 [l0, l1, l2] [] m Q else AW d 170 15 [l0, l1, l2] [] m Q := A_if_lt hB_X11_why dX11_why_12 (by decide)
theorem dX11_why_15 : decode cX11_why 15 = .ok (.iload_n 2, 1) := by decide +kernel
theorem tX11_why_15 {d : Nat} {l0 l1 : Option Value} {x : Int32} {m : jmM} {Q : Option Value → jmM → Prop} : AW d 170 15 [l0, l1, some (.int x)] [] m Q ↔ AW d 170 16 [l0, l1, some (.int x)] [.int x] m Q := A_iload_n hB_X11_why dX11_why_15 rfl
theorem dX11_why_16 : decode cX11_why 16 = .ok (.aload_n 0, 1) := by decide +kernel
theorem tX11_why_16 {d : Nat} {l1 l2 : Option Value} {v0 : Value} {x : Nat} {m : jmM} {Q : Option Value → jmM → Prop} : AW d 170 16 [some (.ref x), l1, l2] [v0] m Q ↔ AW d 170 17 [some (.ref x), l1, l2] [.ref x, v0] m Q := A_aload_n hB_X11_why dX11_why_16 rfl
theorem dX11_why_17 : decode cX11_why 17 = .ok (.getfield 75, 3) := by decide +kernel
theorem tX11_why_17 {d : Nat} {l0 l1 l2 : Option Value} {v1 : Value} {a : Nat} {m : jmM} {Q : Option Value → jmM → Prop} : AW d 170 17 [l0, l1, l2] [.ref a, v1] m Q ↔ (mS m a).1 = 11 ∧ AW d 170 20 [l0, l1, l2] [.int (mI m a 12), v1] m Q := A_getfield (f := fun m a => .int (mI m a 12)) hB_X11_why dX11_why_17 hO_X11_why fF_11_75 rfl
theorem dX11_why_20 : decode cX11_why 20 = .ok (.if_icmp .ge 12, 3) := by decide +kernel
theorem tX11_why_20 {d : Nat} {l0 l1 l2 : Option Value} {x y : Int32} {m : jmM} {Q : Option Value → jmM → Prop} : AW d 170 20 [l0, l1, l2] [.int y, .int x] m Q ↔ if y ≤ x then AW d 170 32 [l0, l1, l2] [] m Q else AW d 170 23 [l0, l1, l2] [] m Q := A_icmp_ge hB_X11_why dX11_why_20 (by decide)
theorem dX11_why_23 : decode cX11_why 23 = .ok (.iload_n 2, 1) := by decide +kernel
theorem tX11_why_23 {d : Nat} {l0 l1 : Option Value} {x : Int32} {m : jmM} {Q : Option Value → jmM → Prop} : AW d 170 23 [l0, l1, some (.int x)] [] m Q ↔ AW d 170 24 [l0, l1, some (.int x)] [.int x] m Q := A_iload_n hB_X11_why dX11_why_23 rfl
theorem dX11_why_24 : decode cX11_why 24 = .ok (.aload_n 0, 1) := by decide +kernel
theorem tX11_why_24 {d : Nat} {l1 l2 : Option Value} {v0 : Value} {x : Nat} {m : jmM} {Q : Option Value → jmM → Prop} : AW d 170 24 [some (.ref x), l1, l2] [v0] m Q ↔ AW d 170 25 [some (.ref x), l1, l2] [.ref x, v0] m Q := A_aload_n hB_X11_why dX11_why_24 rfl
theorem dX11_why_25 : decode cX11_why 25 = .ok (.getfield 71, 3) := by decide +kernel
theorem tX11_why_25 {d : Nat} {l0 l1 l2 : Option Value} {v1 : Value} {a : Nat} {m : jmM} {Q : Option Value → jmM → Prop} : AW d 170 25 [l0, l1, l2] [.ref a, v1] m Q ↔ (mS m a).1 = 11 ∧ AW d 170 28 [l0, l1, l2] [va_rf (mR m a 11), v1] m Q := A_getfield (f := fun m a => va_rf (mR m a 11)) hB_X11_why dX11_why_25 hO_X11_why fF_11_71 rfl
theorem dX11_why_28 : decode cX11_why 28 = .ok (.arraylength, 1) := by decide +kernel
theorem tX11_why_28 {d : Nat} {l0 l1 l2 : Option Value} {v1 : Value} {a : Nat} {m : jmM} {Q : Option Value → jmM → Prop} : AW d 170 28 [l0, l1, l2] [.ref a, v1] m Q ↔ ((20 ≤ (mS m a).1 ∧ (mS m a).1 ≤ 26) ∨ a = jScr) ∧ AW d 170 29 [l0, l1, l2] [.int (nI (mS m a).2), v1] m Q := A_arraylength hB_X11_why dX11_why_28
theorem dX11_why_29 : decode cX11_why 29 = .ok (.if_icmp .lt 5, 3) := by decide +kernel
theorem tX11_why_29 {d : Nat} {l0 l1 l2 : Option Value} {x y : Int32} {m : jmM} {Q : Option Value → jmM → Prop} : AW d 170 29 [l0, l1, l2] [.int y, .int x] m Q ↔ if x < y then AW d 170 34 [l0, l1, l2] [] m Q else AW d 170 32 [l0, l1, l2] [] m Q := A_icmp_lt hB_X11_why dX11_why_29 (by decide)
theorem dX11_why_32 : decode cX11_why 32 = .ok (.iconst (-1), 1) := by decide +kernel
theorem tX11_why_32 {d : Nat} {l0 l1 l2 : Option Value} {m : jmM} {Q : Option Value → jmM → Prop} : AW d 170 32 [l0, l1, l2] [] m Q ↔ AW d 170 33 [l0, l1, l2] [.int (-1)] m Q := A_iconst hB_X11_why dX11_why_32 (by decide)
theorem dX11_why_33 : decode cX11_why 33 = .ok (.ireturn, 1) := by decide +kernel
theorem tX11_why_33 {d : Nat} {l0 l1 l2 : Option Value} {x : Int32} {m : jmM} {Q : Option Value → jmM → Prop} : AW d 170 33 [l0, l1, l2] [.int x] m Q ↔ Q (some (.int x)) m := A_ireturn hB_X11_why dX11_why_33 hR_X11_why
theorem dX11_why_34 : decode cX11_why 34 = .ok (.aload_n 0, 1) := by decide +kernel
theorem tX11_why_34 {d : Nat} {l1 l2 : Option Value} {x : Nat} {m : jmM} {Q : Option Value → jmM → Prop} : AW d 170 34 [some (.ref x), l1, l2] [] m Q ↔ AW d 170 35 [some (.ref x), l1, l2] [.ref x] m Q := A_aload_n hB_X11_why dX11_why_34 rfl
theorem dX11_why_35 : decode cX11_why 35 = .ok (.getfield 71, 3) := by decide +kernel
theorem tX11_why_35 {d : Nat} {l0 l1 l2 : Option Value} {a : Nat} {m : jmM} {Q : Option Value → jmM → Prop} : AW d 170 35 [l0, l1, l2] [.ref a] m Q ↔ (mS m a).1 = 11 ∧ AW d 170 38 [l0, l1, l2] [va_rf (mR m a 11)] m Q := A_getfield (f := fun m a => va_rf (mR m a 11)) hB_X11_why dX11_why_35 hO_X11_why fF_11_71 rfl
theorem dX11_why_38 : decode cX11_why 38 = .ok (.iload_n 2, 1) := by decide +kernel
theorem tX11_why_38 {d : Nat} {l0 l1 : Option Value} {v0 : Value} {x : Int32} {m : jmM} {Q : Option Value → jmM → Prop} : AW d 170 38 [l0, l1, some (.int x)] [v0] m Q ↔ AW d 170 39 [l0, l1, some (.int x)] [.int x, v0] m Q := A_iload_n hB_X11_why dX11_why_38 rfl
theorem dX11_why_39 : decode cX11_why 39 = .ok (.aaload, 1) := by decide +kernel
theorem tX11_why_39 {d : Nat} {l0 l1 l2 : Option Value} {i : Int32} {a : Nat} {m : jmM} {Q : Option Value → jmM → Prop} : AW d 170 39 [l0, l1, l2] [.int i, .ref a] m Q ↔ (24 ≤ (mS m a).1 ∧ (mS m a).1 ≤ 26 ∧ jIx i (mS m a).2) ∧ AW d 170 40 [l0, l1, l2] [va_rf (mR m a (jx i))] m Q := A_aaload hB_X11_why dX11_why_39
theorem dX11_why_40 : decode cX11_why 40 = .ok (.aload_n 0, 1) := by decide +kernel
theorem tX11_why_40 {d : Nat} {l1 l2 : Option Value} {v0 : Value} {x : Nat} {m : jmM} {Q : Option Value → jmM → Prop} : AW d 170 40 [some (.ref x), l1, l2] [v0] m Q ↔ AW d 170 41 [some (.ref x), l1, l2] [.ref x, v0] m Q := A_aload_n hB_X11_why dX11_why_40 rfl
theorem dX11_why_41 : decode cX11_why 41 = .ok (.getfield 56, 3) := by decide +kernel
theorem tX11_why_41 {d : Nat} {l0 l1 l2 : Option Value} {v1 : Value} {a : Nat} {m : jmM} {Q : Option Value → jmM → Prop} : AW d 170 41 [l0, l1, l2] [.ref a, v1] m Q ↔ (mS m a).1 = 11 ∧ AW d 170 44 [l0, l1, l2] [va_rf (mR m a 8), v1] m Q := A_getfield (f := fun m a => va_rf (mR m a 8)) hB_X11_why dX11_why_41 hO_X11_why fF_11_56 rfl
theorem dX11_why_44 : decode cX11_why 44 = .ok (.iload_n 1, 1) := by decide +kernel
theorem tX11_why_44 {d : Nat} {l0 l2 : Option Value} {v0 v1 : Value} {x : Int32} {m : jmM} {Q : Option Value → jmM → Prop} : AW d 170 44 [l0, some (.int x), l2] [v0, v1] m Q ↔ AW d 170 45 [l0, some (.int x), l2] [.int x, v0, v1] m Q := A_iload_n hB_X11_why dX11_why_44 rfl
theorem dX11_why_45 : decode cX11_why 45 = .ok (.aload_n 0, 1) := by decide +kernel
theorem tX11_why_45 {d : Nat} {l1 l2 : Option Value} {v0 v1 v2 : Value} {x : Nat} {m : jmM} {Q : Option Value → jmM → Prop} : AW d 170 45 [some (.ref x), l1, l2] [v0, v1, v2] m Q ↔ AW d 170 46 [some (.ref x), l1, l2] [.ref x, v0, v1, v2] m Q := A_aload_n hB_X11_why dX11_why_45 rfl
theorem dX11_why_46 : decode cX11_why 46 = .ok (.getfield 56, 3) := by decide +kernel
theorem tX11_why_46 {d : Nat} {l0 l1 l2 : Option Value} {v1 v2 v3 : Value} {a : Nat} {m : jmM} {Q : Option Value → jmM → Prop} : AW d 170 46 [l0, l1, l2] [.ref a, v1, v2, v3] m Q ↔ (mS m a).1 = 11 ∧ AW d 170 49 [l0, l1, l2] [va_rf (mR m a 8), v1, v2, v3] m Q := A_getfield (f := fun m a => va_rf (mR m a 8)) hB_X11_why dX11_why_46 hO_X11_why fF_11_56 rfl
theorem dX11_why_49 : decode cX11_why 49 = .ok (.aload_n 0, 1) := by decide +kernel
theorem tX11_why_49 {d : Nat} {l1 l2 : Option Value} {v0 v1 v2 v3 : Value} {x : Nat} {m : jmM} {Q : Option Value → jmM → Prop} : AW d 170 49 [some (.ref x), l1, l2] [v0, v1, v2, v3] m Q ↔ AW d 170 50 [some (.ref x), l1, l2] [.ref x, v0, v1, v2, v3] m Q := A_aload_n hB_X11_why dX11_why_49 rfl
theorem dX11_why_50 : decode cX11_why 50 = .ok (.getfield 49, 3) := by decide +kernel
theorem tX11_why_50 {d : Nat} {l0 l1 l2 : Option Value} {v1 v2 v3 v4 : Value} {a : Nat} {m : jmM} {Q : Option Value → jmM → Prop} : AW d 170 50 [l0, l1, l2] [.ref a, v1, v2, v3, v4] m Q ↔ (mS m a).1 = 11 ∧ AW d 170 53 [l0, l1, l2] [.int (mI m a 7), v1, v2, v3, v4] m Q := A_getfield (f := fun m a => .int (mI m a 7)) hB_X11_why dX11_why_50 hO_X11_why fF_11_49 rfl
theorem dX11_why_53 : decode cX11_why 53 = .ok (.invokevirtual 213, 3) := by decide +kernel
theorem tX11_why_53 {d : Nat} {l0 l1 l2 : Option Value} {v2 v3 v4 : Value} {y0 : Value} {a : Nat} {m : jmM} {Q : Option Value → jmM → Prop} : AW d 170 53 [l0, l1, l2] [y0, .ref a, v2, v3, v4] m Q ↔ (mS m a).1 = 5 ∧ CC d 63 [.ref a, y0] m (jK d 170 56 [l0, l1, l2] [v2, v3, v4] Q) := A_callV hB_X11_why dX11_why_53 hO_X11_why fS_11_213 ⟨Nat.le_of_ble_eq_true rfl, Nat.le_of_ble_eq_true rfl⟩ rfl rfl rfl
theorem dX11_why_56 : decode cX11_why 56 = .ok (.aload_n 0, 1) := by decide +kernel
theorem tX11_why_56 {d : Nat} {l1 l2 : Option Value} {v0 v1 v2 v3 : Value} {x : Nat} {m : jmM} {Q : Option Value → jmM → Prop} : AW d 170 56 [some (.ref x), l1, l2] [v0, v1, v2, v3] m Q ↔ AW d 170 57 [some (.ref x), l1, l2] [.ref x, v0, v1, v2, v3] m Q := A_aload_n hB_X11_why dX11_why_56 rfl
theorem dX11_why_57 : decode cX11_why 57 = .ok (.getfield 56, 3) := by decide +kernel
theorem tX11_why_57 {d : Nat} {l0 l1 l2 : Option Value} {v1 v2 v3 v4 : Value} {a : Nat} {m : jmM} {Q : Option Value → jmM → Prop} : AW d 170 57 [l0, l1, l2] [.ref a, v1, v2, v3, v4] m Q ↔ (mS m a).1 = 11 ∧ AW d 170 60 [l0, l1, l2] [va_rf (mR m a 8), v1, v2, v3, v4] m Q := A_getfield (f := fun m a => va_rf (mR m a 8)) hB_X11_why dX11_why_57 hO_X11_why fF_11_56 rfl
theorem dX11_why_60 : decode cX11_why 60 = .ok (.invokevirtual 216, 3) := by decide +kernel
theorem tX11_why_60 {d : Nat} {l0 l1 l2 : Option Value} {v1 v2 v3 v4 : Value} {a : Nat} {m : jmM} {Q : Option Value → jmM → Prop} : AW d 170 60 [l0, l1, l2] [.ref a, v1, v2, v3, v4] m Q ↔ (mS m a).1 = 5 ∧ CC d 62 [.ref a] m (jK d 170 63 [l0, l1, l2] [v1, v2, v3, v4] Q) := A_callV hB_X11_why dX11_why_60 hO_X11_why fS_11_216 ⟨Nat.le_of_ble_eq_true rfl, Nat.le_of_ble_eq_true rfl⟩ rfl rfl rfl
theorem dX11_why_63 : decode cX11_why 63 = .ok (.invokevirtual 317, 3) := by decide +kernel
theorem tX11_why_63 {d : Nat} {l0 l1 l2 : Option Value} {y0 y1 y2 y3 : Value} {a : Nat} {m : jmM} {Q : Option Value → jmM → Prop} : AW d 170 63 [l0, l1, l2] [y0, y1, y2, y3, .ref a] m Q ↔ (mS m a).1 = 10 ∧ CC d 139 [.ref a, y3, y2, y1, y0] m (jK d 170 66 [l0, l1, l2] [] Q) := A_callV hB_X11_why dX11_why_63 hO_X11_why fS_11_317 ⟨Nat.le_of_ble_eq_true rfl, Nat.le_of_ble_eq_true rfl⟩ rfl rfl rfl
theorem dX11_why_66 : decode cX11_why 66 = .ok (.ireturn, 1) := by decide +kernel
theorem tX11_why_66 {d : Nat} {l0 l1 l2 : Option Value} {x : Int32} {m : jmM} {Q : Option Value → jmM → Prop} : AW d 170 66 [l0, l1, l2] [.int x] m Q ↔ Q (some (.int x)) m := A_ireturn hB_X11_why dX11_why_66 hR_X11_why
