/-! steps of PulledCrystalModel, by program -/
theorem hB_X12_init : jB 188 = cX12_init := rfl
theorem hO_X12_init : jO 188 = 12 := rfl
theorem hR_X12_init : jRt 188 = none := rfl
theorem nX12_init (d : Nat) (x0 : Nat) (m : jmM) (Q : Option Value → jmM → Prop) : CC (d + 1) 188 [.ref x0] m Q ↔ AW d 188 0 [some (.ref x0), none] [] m Q := CC_body (Nat.le_of_ble_eq_true rfl)
theorem dX12_init_0 : decode cX12_init 0 = .ok (.aload_n 0, 1) := by decide +kernel
theorem tX12_init_0 {d : Nat} {l1 : Option Value} {x : Nat} {m : jmM} {Q : Option Value → jmM → Prop} : AW d 188 0 [some (.ref x), l1] [] m Q ↔ AW d 188 1 [some (.ref x), l1] [.ref x] m Q := A_aload_n hB_X12_init dX12_init_0 rfl
theorem dX12_init_1 : decode cX12_init 1 = .ok (.invokespecial 1, 3) := by decide +kernel
theorem tX12_init_1 {d : Nat} {l0 l1 : Option Value} {a : Nat} {m : jmM} {Q : Option Value → jmM → Prop} : AW d 188 1 [l0, l1] [.ref a] m Q ↔ AW d 188 4 [l0, l1] [] m Q := A_obj hB_X12_init dX12_init_1 hO_X12_init fS_12_1 (Nat.le_of_ble_eq_true rfl)
theorem dX12_init_4 : decode cX12_init 4 = .ok (.aload_n 0, 1) := by decide +kernel
theorem tX12_init_4 {d : Nat} {l1 : Option Value} {x : Nat} {m : jmM} {Q : Option Value → jmM → Prop} : AW d 188 4 [some (.ref x), l1] [] m Q ↔ AW d 188 5 [some (.ref x), l1] [.ref x] m Q := A_aload_n hB_X12_init dX12_init_4 rfl
theorem dX12_init_5 : decode cX12_init 5 = .ok (.sipush 400, 3) := by decide +kernel
theorem tX12_init_5 {d : Nat} {l0 l1 : Option Value} {v0 : Value} {m : jmM} {Q : Option Value → jmM → Prop} : AW d 188 5 [l0, l1] [v0] m Q ↔ AW d 188 8 [l0, l1] [.int 400, v0] m Q := A_sipush hB_X12_init dX12_init_5 rfl
theorem dX12_init_8 : decode cX12_init 8 = .ok (.newarray .byte, 2) := by decide +kernel
theorem tX12_init_8 {d : Nat} {l0 l1 : Option Value} {v1 : Value} {x : Int32} {m : jmM} {Q : Option Value → jmM → Prop} : AW d 188 8 [l0, l1] [.int x, v1] m Q ↔ (0 ≤ x.toInt ∧ x.toInt ≤ 100000) ∧ AW d 188 10 [l0, l1] [.ref (mN m), v1] (jNew m 22 (jx x)) Q := A_newarray hB_X12_init dX12_init_8 rfl
theorem dX12_init_10 : decode cX12_init 10 = .ok (.putfield 7, 3) := by decide +kernel
theorem tX12_init_10 {d : Nat} {l0 l1 : Option Value} {x a : Nat} {m : jmM} {Q : Option Value → jmM → Prop} : AW d 188 10 [l0, l1] [.ref x, .ref a] m Q ↔ (mS m a).1 = 12 ∧ AW d 188 13 [l0, l1] [] (cR m a (jup (mR m a) 0 (some x))) Q := A_putR hB_X12_init dX12_init_10 hO_X12_init fF_12_7 rfl (fun _ => ⟨rfl, rfl⟩)
theorem tX12_init_10q {d : Nat} {l0 l1 : Option Value} {x : Option Nat} {a : Nat} {m : jmM} {Q : Option Value → jmM → Prop} : AW d 188 10 [l0, l1] [va_rf x, .ref a] m Q ↔ (mS m a).1 = 12 ∧ AW d 188 13 [l0, l1] [] (cR m a (jup (mR m a) 0 x)) Q := A_putQ hB_X12_init dX12_init_10 hO_X12_init fF_12_7 rfl (fun _ => ⟨rfl, rfl⟩)
theorem tX12_init_10n {d : Nat} {l0 l1 : Option Value} {a : Nat} {m : jmM} {Q : Option Value → jmM → Prop} : AW d 188 10 [l0, l1] [.null, .ref a] m Q ↔ (mS m a).1 = 12 ∧ AW d 188 13 [l0, l1] [] (cR m a (jup (mR m a) 0 none)) Q := A_putQ (x := none) hB_X12_init dX12_init_10 hO_X12_init fF_12_7 rfl (fun _ => ⟨rfl, rfl⟩)
theorem dX12_init_13 : decode cX12_init 13 = .ok (.aload_n 0, 1) := by decide +kernel
theorem tX12_init_13 {d : Nat} {l1 : Option Value} {x : Nat} {m : jmM} {Q : Option Value → jmM → Prop} : AW d 188 13 [some (.ref x), l1] [] m Q ↔ AW d 188 14 [some (.ref x), l1] [.ref x] m Q := A_aload_n hB_X12_init dX12_init_13 rfl
theorem dX12_init_14 : decode cX12_init 14 = .ok (.sipush 4800, 3) := by decide +kernel
theorem tX12_init_14 {d : Nat} {l0 l1 : Option Value} {v0 : Value} {m : jmM} {Q : Option Value → jmM → Prop} : AW d 188 14 [l0, l1] [v0] m Q ↔ AW d 188 17 [l0, l1] [.int 4800, v0] m Q := A_sipush hB_X12_init dX12_init_14 rfl
theorem dX12_init_17 : decode cX12_init 17 = .ok (.newarray .int, 2) := by decide +kernel
theorem tX12_init_17 {d : Nat} {l0 l1 : Option Value} {v1 : Value} {x : Int32} {m : jmM} {Q : Option Value → jmM → Prop} : AW d 188 17 [l0, l1] [.int x, v1] m Q ↔ (0 ≤ x.toInt ∧ x.toInt ≤ 100000) ∧ AW d 188 19 [l0, l1] [.ref (mN m), v1] (jNew m 20 (jx x)) Q := A_newarray hB_X12_init dX12_init_17 rfl
theorem dX12_init_19 : decode cX12_init 19 = .ok (.putfield 13, 3) := by decide +kernel
theorem tX12_init_19 {d : Nat} {l0 l1 : Option Value} {x a : Nat} {m : jmM} {Q : Option Value → jmM → Prop} : AW d 188 19 [l0, l1] [.ref x, .ref a] m Q ↔ (mS m a).1 = 12 ∧ AW d 188 22 [l0, l1] [] (cR m a (jup (mR m a) 2 (some x))) Q := A_putR hB_X12_init dX12_init_19 hO_X12_init fF_12_13 rfl (fun _ => ⟨rfl, rfl⟩)
theorem tX12_init_19q {d : Nat} {l0 l1 : Option Value} {x : Option Nat} {a : Nat} {m : jmM} {Q : Option Value → jmM → Prop} : AW d 188 19 [l0, l1] [va_rf x, .ref a] m Q ↔ (mS m a).1 = 12 ∧ AW d 188 22 [l0, l1] [] (cR m a (jup (mR m a) 2 x)) Q := A_putQ hB_X12_init dX12_init_19 hO_X12_init fF_12_13 rfl (fun _ => ⟨rfl, rfl⟩)
theorem tX12_init_19n {d : Nat} {l0 l1 : Option Value} {a : Nat} {m : jmM} {Q : Option Value → jmM → Prop} : AW d 188 19 [l0, l1] [.null, .ref a] m Q ↔ (mS m a).1 = 12 ∧ AW d 188 22 [l0, l1] [] (cR m a (jup (mR m a) 2 none)) Q := A_putQ (x := none) hB_X12_init dX12_init_19 hO_X12_init fF_12_13 rfl (fun _ => ⟨rfl, rfl⟩)
theorem dX12_init_22 : decode cX12_init 22 = .ok (.aload_n 0, 1) := by decide +kernel
theorem tX12_init_22 {d : Nat} {l1 : Option Value} {x : Nat} {m : jmM} {Q : Option Value → jmM → Prop} : AW d 188 22 [some (.ref x), l1] [] m Q ↔ AW d 188 23 [some (.ref x), l1] [.ref x] m Q := A_aload_n hB_X12_init dX12_init_22 rfl
theorem dX12_init_23 : decode cX12_init 23 = .ok (.bipush 12, 2) := by decide +kernel
theorem tX12_init_23 {d : Nat} {l0 l1 : Option Value} {v0 : Value} {m : jmM} {Q : Option Value → jmM → Prop} : AW d 188 23 [l0, l1] [v0] m Q ↔ AW d 188 25 [l0, l1] [.int 12, v0] m Q := A_bipush hB_X12_init dX12_init_23 rfl
theorem dX12_init_25 : decode cX12_init 25 = .ok (.newarray .int, 2) := by decide +kernel
theorem tX12_init_25 {d : Nat} {l0 l1 : Option Value} {v1 : Value} {x : Int32} {m : jmM} {Q : Option Value → jmM → Prop} : AW d 188 25 [l0, l1] [.int x, v1] m Q ↔ (0 ≤ x.toInt ∧ x.toInt ≤ 100000) ∧ AW d 188 27 [l0, l1] [.ref (mN m), v1] (jNew m 20 (jx x)) Q := A_newarray hB_X12_init dX12_init_25 rfl
theorem dX12_init_27 : decode cX12_init 27 = .ok (.putfield 17, 3) := by decide +kernel
theorem tX12_init_27 {d : Nat} {l0 l1 : Option Value} {x a : Nat} {m : jmM} {Q : Option Value → jmM → Prop} : AW d 188 27 [l0, l1] [.ref x, .ref a] m Q ↔ (mS m a).1 = 12 ∧ AW d 188 30 [l0, l1] [] (cR m a (jup (mR m a) 3 (some x))) Q := A_putR hB_X12_init dX12_init_27 hO_X12_init fF_12_17 rfl (fun _ => ⟨rfl, rfl⟩)
theorem tX12_init_27q {d : Nat} {l0 l1 : Option Value} {x : Option Nat} {a : Nat} {m : jmM} {Q : Option Value → jmM → Prop} : AW d 188 27 [l0, l1] [va_rf x, .ref a] m Q ↔ (mS m a).1 = 12 ∧ AW d 188 30 [l0, l1] [] (cR m a (jup (mR m a) 3 x)) Q := A_putQ hB_X12_init dX12_init_27 hO_X12_init fF_12_17 rfl (fun _ => ⟨rfl, rfl⟩)
theorem tX12_init_27n {d : Nat} {l0 l1 : Option Value} {a : Nat} {m : jmM} {Q : Option Value → jmM → Prop} : AW d 188 27 [l0, l1] [.null, .ref a] m Q ↔ (mS m a).1 = 12 ∧ AW d 188 30 [l0, l1] [] (cR m a (jup (mR m a) 3 none)) Q := A_putQ (x := none) hB_X12_init dX12_init_27 hO_X12_init fF_12_17 rfl (fun _ => ⟨rfl, rfl⟩)
theorem dX12_init_30 : decode cX12_init 30 = .ok (.aload_n 0, 1) := by decide +kernel
theorem tX12_init_30 {d : Nat} {l1 : Option Value} {x : Nat} {m : jmM} {Q : Option Value → jmM → Prop} : AW d 188 30 [some (.ref x), l1] [] m Q ↔ AW d 188 31 [some (.ref x), l1] [.ref x] m Q := A_aload_n hB_X12_init dX12_init_30 rfl
theorem dX12_init_31 : decode cX12_init 31 = .ok (.sipush 720, 3) := by decide +kernel
theorem tX12_init_31 {d : Nat} {l0 l1 : Option Value} {v0 : Value} {m : jmM} {Q : Option Value → jmM → Prop} : AW d 188 31 [l0, l1] [v0] m Q ↔ AW d 188 34 [l0, l1] [.int 720, v0] m Q := A_sipush hB_X12_init dX12_init_31 rfl
theorem dX12_init_34 : decode cX12_init 34 = .ok (.newarray .int, 2) := by decide +kernel
theorem tX12_init_34 {d : Nat} {l0 l1 : Option Value} {v1 : Value} {x : Int32} {m : jmM} {Q : Option Value → jmM → Prop} : AW d 188 34 [l0, l1] [.int x, v1] m Q ↔ (0 ≤ x.toInt ∧ x.toInt ≤ 100000) ∧ AW d 188 36 [l0, l1] [.ref (mN m), v1] (jNew m 20 (jx x)) Q := A_newarray hB_X12_init dX12_init_34 rfl
theorem dX12_init_36 : decode cX12_init 36 = .ok (.putfield 20, 3) := by decide +kernel
theorem tX12_init_36 {d : Nat} {l0 l1 : Option Value} {x a : Nat} {m : jmM} {Q : Option Value → jmM → Prop} : AW d 188 36 [l0, l1] [.ref x, .ref a] m Q ↔ (mS m a).1 = 12 ∧ AW d 188 39 [l0, l1] [] (cR m a (jup (mR m a) 4 (some x))) Q := A_putR hB_X12_init dX12_init_36 hO_X12_init fF_12_20 rfl (fun _ => ⟨rfl, rfl⟩)
theorem tX12_init_36q {d : Nat} {l0 l1 : Option Value} {x : Option Nat} {a : Nat} {m : jmM} {Q : Option Value → jmM → Prop} : AW d 188 36 [l0, l1] [va_rf x, .ref a] m Q ↔ (mS m a).1 = 12 ∧ AW d 188 39 [l0, l1] [] (cR m a (jup (mR m a) 4 x)) Q := A_putQ hB_X12_init dX12_init_36 hO_X12_init fF_12_20 rfl (fun _ => ⟨rfl, rfl⟩)
theorem tX12_init_36n {d : Nat} {l0 l1 : Option Value} {a : Nat} {m : jmM} {Q : Option Value → jmM → Prop} : AW d 188 36 [l0, l1] [.null, .ref a] m Q ↔ (mS m a).1 = 12 ∧ AW d 188 39 [l0, l1] [] (cR m a (jup (mR m a) 4 none)) Q := A_putQ (x := none) hB_X12_init dX12_init_36 hO_X12_init fF_12_20 rfl (fun _ => ⟨rfl, rfl⟩)
theorem dX12_init_39 : decode cX12_init 39 = .ok (.aload_n 0, 1) := by decide +kernel
theorem tX12_init_39 {d : Nat} {l1 : Option Value} {x : Nat} {m : jmM} {Q : Option Value → jmM → Prop} : AW d 188 39 [some (.ref x), l1] [] m Q ↔ AW d 188 40 [some (.ref x), l1] [.ref x] m Q := A_aload_n hB_X12_init dX12_init_39 rfl
theorem dX12_init_40 : decode cX12_init 40 = .ok (.bipush 12, 2) := by decide +kernel
theorem tX12_init_40 {d : Nat} {l0 l1 : Option Value} {v0 : Value} {m : jmM} {Q : Option Value → jmM → Prop} : AW d 188 40 [l0, l1] [v0] m Q ↔ AW d 188 42 [l0, l1] [.int 12, v0] m Q := A_bipush hB_X12_init dX12_init_40 rfl
theorem dX12_init_42 : decode cX12_init 42 = .ok (.newarray .int, 2) := by decide +kernel
theorem tX12_init_42 {d : Nat} {l0 l1 : Option Value} {v1 : Value} {x : Int32} {m : jmM} {Q : Option Value → jmM → Prop} : AW d 188 42 [l0, l1] [.int x, v1] m Q ↔ (0 ≤ x.toInt ∧ x.toInt ≤ 100000) ∧ AW d 188 44 [l0, l1] [.ref (mN m), v1] (jNew m 20 (jx x)) Q := A_newarray hB_X12_init dX12_init_42 rfl
theorem dX12_init_44 : decode cX12_init 44 = .ok (.putfield 23, 3) := by decide +kernel
theorem tX12_init_44 {d : Nat} {l0 l1 : Option Value} {x a : Nat} {m : jmM} {Q : Option Value → jmM → Prop} : AW d 188 44 [l0, l1] [.ref x, .ref a] m Q ↔ (mS m a).1 = 12 ∧ AW d 188 47 [l0, l1] [] (cR m a (jup (mR m a) 5 (some x))) Q := A_putR hB_X12_init dX12_init_44 hO_X12_init fF_12_23 rfl (fun _ => ⟨rfl, rfl⟩)
theorem tX12_init_44q {d : Nat} {l0 l1 : Option Value} {x : Option Nat} {a : Nat} {m : jmM} {Q : Option Value → jmM → Prop} : AW d 188 44 [l0, l1] [va_rf x, .ref a] m Q ↔ (mS m a).1 = 12 ∧ AW d 188 47 [l0, l1] [] (cR m a (jup (mR m a) 5 x)) Q := A_putQ hB_X12_init dX12_init_44 hO_X12_init fF_12_23 rfl (fun _ => ⟨rfl, rfl⟩)
theorem tX12_init_44n {d : Nat} {l0 l1 : Option Value} {a : Nat} {m : jmM} {Q : Option Value → jmM → Prop} : AW d 188 44 [l0, l1] [.null, .ref a] m Q ↔ (mS m a).1 = 12 ∧ AW d 188 47 [l0, l1] [] (cR m a (jup (mR m a) 5 none)) Q := A_putQ (x := none) hB_X12_init dX12_init_44 hO_X12_init fF_12_23 rfl (fun _ => ⟨rfl, rfl⟩)
theorem dX12_init_47 : decode cX12_init 47 = .ok (.aload_n 0, 1) := by decide +kernel
theorem tX12_init_47 {d : Nat} {l1 : Option Value} {x : Nat} {m : jmM} {Q : Option Value → jmM → Prop} : AW d 188 47 [some (.ref x), l1] [] m Q ↔ AW d 188 48 [some (.ref x), l1] [.ref x] m Q := A_aload_n hB_X12_init dX12_init_47 rfl
theorem dX12_init_48 : decode cX12_init 48 = .ok (.bipush 12, 2) := by decide +kernel
theorem tX12_init_48 {d : Nat} {l0 l1 : Option Value} {v0 : Value} {m : jmM} {Q : Option Value → jmM → Prop} : AW d 188 48 [l0, l1] [v0] m Q ↔ AW d 188 50 [l0, l1] [.int 12, v0] m Q := A_bipush hB_X12_init dX12_init_48 rfl
theorem dX12_init_50 : decode cX12_init 50 = .ok (.newarray .int, 2) := by decide +kernel
theorem tX12_init_50 {d : Nat} {l0 l1 : Option Value} {v1 : Value} {x : Int32} {m : jmM} {Q : Option Value → jmM → Prop} : AW d 188 50 [l0, l1] [.int x, v1] m Q ↔ (0 ≤ x.toInt ∧ x.toInt ≤ 100000) ∧ AW d 188 52 [l0, l1] [.ref (mN m), v1] (jNew m 20 (jx x)) Q := A_newarray hB_X12_init dX12_init_50 rfl
theorem dX12_init_52 : decode cX12_init 52 = .ok (.putfield 26, 3) := by decide +kernel
theorem tX12_init_52 {d : Nat} {l0 l1 : Option Value} {x a : Nat} {m : jmM} {Q : Option Value → jmM → Prop} : AW d 188 52 [l0, l1] [.ref x, .ref a] m Q ↔ (mS m a).1 = 12 ∧ AW d 188 55 [l0, l1] [] (cR m a (jup (mR m a) 6 (some x))) Q := A_putR hB_X12_init dX12_init_52 hO_X12_init fF_12_26 rfl (fun _ => ⟨rfl, rfl⟩)
theorem tX12_init_52q {d : Nat} {l0 l1 : Option Value} {x : Option Nat} {a : Nat} {m : jmM} {Q : Option Value → jmM → Prop} : AW d 188 52 [l0, l1] [va_rf x, .ref a] m Q ↔ (mS m a).1 = 12 ∧ AW d 188 55 [l0, l1] [] (cR m a (jup (mR m a) 6 x)) Q := A_putQ hB_X12_init dX12_init_52 hO_X12_init fF_12_26 rfl (fun _ => ⟨rfl, rfl⟩)
theorem tX12_init_52n {d : Nat} {l0 l1 : Option Value} {a : Nat} {m : jmM} {Q : Option Value → jmM → Prop} : AW d 188 52 [l0, l1] [.null, .ref a] m Q ↔ (mS m a).1 = 12 ∧ AW d 188 55 [l0, l1] [] (cR m a (jup (mR m a) 6 none)) Q := A_putQ (x := none) hB_X12_init dX12_init_52 hO_X12_init fF_12_26 rfl (fun _ => ⟨rfl, rfl⟩)
theorem dX12_init_55 : decode cX12_init 55 = .ok (.aload_n 0, 1) := by decide +kernel
theorem tX12_init_55 {d : Nat} {l1 : Option Value} {x : Nat} {m : jmM} {Q : Option Value → jmM → Prop} : AW d 188 55 [some (.ref x), l1] [] m Q ↔ AW d 188 56 [some (.ref x), l1] [.ref x] m Q := A_aload_n hB_X12_init dX12_init_55 rfl
theorem dX12_init_56 : decode cX12_init 56 = .ok (.bipush 12, 2) := by decide +kernel
theorem tX12_init_56 {d : Nat} {l0 l1 : Option Value} {v0 : Value} {m : jmM} {Q : Option Value → jmM → Prop} : AW d 188 56 [l0, l1] [v0] m Q ↔ AW d 188 58 [l0, l1] [.int 12, v0] m Q := A_bipush hB_X12_init dX12_init_56 rfl
theorem dX12_init_58 : decode cX12_init 58 = .ok (.newarray .int, 2) := by decide +kernel
theorem tX12_init_58 {d : Nat} {l0 l1 : Option Value} {v1 : Value} {x : Int32} {m : jmM} {Q : Option Value → jmM → Prop} : AW d 188 58 [l0, l1] [.int x, v1] m Q ↔ (0 ≤ x.toInt ∧ x.toInt ≤ 100000) ∧ AW d 188 60 [l0, l1] [.ref (mN m), v1] (jNew m 20 (jx x)) Q := A_newarray hB_X12_init dX12_init_58 rfl
theorem dX12_init_60 : decode cX12_init 60 = .ok (.putfield 29, 3) := by decide +kernel
theorem tX12_init_60 {d : Nat} {l0 l1 : Option Value} {x a : Nat} {m : jmM} {Q : Option Value → jmM → Prop} : AW d 188 60 [l0, l1] [.ref x, .ref a] m Q ↔ (mS m a).1 = 12 ∧ AW d 188 63 [l0, l1] [] (cR m a (jup (mR m a) 7 (some x))) Q := A_putR hB_X12_init dX12_init_60 hO_X12_init fF_12_29 rfl (fun _ => ⟨rfl, rfl⟩)
theorem tX12_init_60q {d : Nat} {l0 l1 : Option Value} {x : Option Nat} {a : Nat} {m : jmM} {Q : Option Value → jmM → Prop} : AW d 188 60 [l0, l1] [va_rf x, .ref a] m Q ↔ (mS m a).1 = 12 ∧ AW d 188 63 [l0, l1] [] (cR m a (jup (mR m a) 7 x)) Q := A_putQ hB_X12_init dX12_init_60 hO_X12_init fF_12_29 rfl (fun _ => ⟨rfl, rfl⟩)
theorem tX12_init_60n {d : Nat} {l0 l1 : Option Value} {a : Nat} {m : jmM} {Q : Option Value → jmM → Prop} : AW d 188 60 [l0, l1] [.null, .ref a] m Q ↔ (mS m a).1 = 12 ∧ AW d 188 63 [l0, l1] [] (cR m a (jup (mR m a) 7 none)) Q := A_putQ (x := none) hB_X12_init dX12_init_60 hO_X12_init fF_12_29 rfl (fun _ => ⟨rfl, rfl⟩)
theorem dX12_init_63 : decode cX12_init 63 = .ok (.aload_n 0, 1) := by decide +kernel
theorem tX12_init_63 {d : Nat} {l1 : Option Value} {x : Nat} {m : jmM} {Q : Option Value → jmM → Prop} : AW d 188 63 [some (.ref x), l1] [] m Q ↔ AW d 188 64 [some (.ref x), l1] [.ref x] m Q := A_aload_n hB_X12_init dX12_init_63 rfl
theorem dX12_init_64 : decode cX12_init 64 = .ok (.bipush 12, 2) := by decide +kernel
theorem tX12_init_64 {d : Nat} {l0 l1 : Option Value} {v0 : Value} {m : jmM} {Q : Option Value → jmM → Prop} : AW d 188 64 [l0, l1] [v0] m Q ↔ AW d 188 66 [l0, l1] [.int 12, v0] m Q := A_bipush hB_X12_init dX12_init_64 rfl
theorem dX12_init_66 : decode cX12_init 66 = .ok (.newarray .int, 2) := by decide +kernel
theorem tX12_init_66 {d : Nat} {l0 l1 : Option Value} {v1 : Value} {x : Int32} {m : jmM} {Q : Option Value → jmM → Prop} : AW d 188 66 [l0, l1] [.int x, v1] m Q ↔ (0 ≤ x.toInt ∧ x.toInt ≤ 100000) ∧ AW d 188 68 [l0, l1] [.ref (mN m), v1] (jNew m 20 (jx x)) Q := A_newarray hB_X12_init dX12_init_66 rfl
theorem dX12_init_68 : decode cX12_init 68 = .ok (.putfield 32, 3) := by decide +kernel
theorem tX12_init_68 {d : Nat} {l0 l1 : Option Value} {x a : Nat} {m : jmM} {Q : Option Value → jmM → Prop} : AW d 188 68 [l0, l1] [.ref x, .ref a] m Q ↔ (mS m a).1 = 12 ∧ AW d 188 71 [l0, l1] [] (cR m a (jup (mR m a) 8 (some x))) Q := A_putR hB_X12_init dX12_init_68 hO_X12_init fF_12_32 rfl (fun _ => ⟨rfl, rfl⟩)
theorem tX12_init_68q {d : Nat} {l0 l1 : Option Value} {x : Option Nat} {a : Nat} {m : jmM} {Q : Option Value → jmM → Prop} : AW d 188 68 [l0, l1] [va_rf x, .ref a] m Q ↔ (mS m a).1 = 12 ∧ AW d 188 71 [l0, l1] [] (cR m a (jup (mR m a) 8 x)) Q := A_putQ hB_X12_init dX12_init_68 hO_X12_init fF_12_32 rfl (fun _ => ⟨rfl, rfl⟩)
theorem tX12_init_68n {d : Nat} {l0 l1 : Option Value} {a : Nat} {m : jmM} {Q : Option Value → jmM → Prop} : AW d 188 68 [l0, l1] [.null, .ref a] m Q ↔ (mS m a).1 = 12 ∧ AW d 188 71 [l0, l1] [] (cR m a (jup (mR m a) 8 none)) Q := A_putQ (x := none) hB_X12_init dX12_init_68 hO_X12_init fF_12_32 rfl (fun _ => ⟨rfl, rfl⟩)
theorem dX12_init_71 : decode cX12_init 71 = .ok (.aload_n 0, 1) := by decide +kernel
theorem tX12_init_71 {d : Nat} {l1 : Option Value} {x : Nat} {m : jmM} {Q : Option Value → jmM → Prop} : AW d 188 71 [some (.ref x), l1] [] m Q ↔ AW d 188 72 [some (.ref x), l1] [.ref x] m Q := A_aload_n hB_X12_init dX12_init_71 rfl
theorem dX12_init_72 : decode cX12_init 72 = .ok (.sipush 400, 3) := by decide +kernel
theorem tX12_init_72 {d : Nat} {l0 l1 : Option Value} {v0 : Value} {m : jmM} {Q : Option Value → jmM → Prop} : AW d 188 72 [l0, l1] [v0] m Q ↔ AW d 188 75 [l0, l1] [.int 400, v0] m Q := A_sipush hB_X12_init dX12_init_72 rfl
theorem dX12_init_75 : decode cX12_init 75 = .ok (.newarray .int, 2) := by decide +kernel
theorem tX12_init_75 {d : Nat} {l0 l1 : Option Value} {v1 : Value} {x : Int32} {m : jmM} {Q : Option Value → jmM → Prop} : AW d 188 75 [l0, l1] [.int x, v1] m Q ↔ (0 ≤ x.toInt ∧ x.toInt ≤ 100000) ∧ AW d 188 77 [l0, l1] [.ref (mN m), v1] (jNew m 20 (jx x)) Q := A_newarray hB_X12_init dX12_init_75 rfl
theorem dX12_init_77 : decode cX12_init 77 = .ok (.putfield 35, 3) := by decide +kernel
theorem tX12_init_77 {d : Nat} {l0 l1 : Option Value} {x a : Nat} {m : jmM} {Q : Option Value → jmM → Prop} : AW d 188 77 [l0, l1] [.ref x, .ref a] m Q ↔ (mS m a).1 = 12 ∧ AW d 188 80 [l0, l1] [] (cR m a (jup (mR m a) 17 (some x))) Q := A_putR hB_X12_init dX12_init_77 hO_X12_init fF_12_35 rfl (fun _ => ⟨rfl, rfl⟩)
theorem tX12_init_77q {d : Nat} {l0 l1 : Option Value} {x : Option Nat} {a : Nat} {m : jmM} {Q : Option Value → jmM → Prop} : AW d 188 77 [l0, l1] [va_rf x, .ref a] m Q ↔ (mS m a).1 = 12 ∧ AW d 188 80 [l0, l1] [] (cR m a (jup (mR m a) 17 x)) Q := A_putQ hB_X12_init dX12_init_77 hO_X12_init fF_12_35 rfl (fun _ => ⟨rfl, rfl⟩)
theorem tX12_init_77n {d : Nat} {l0 l1 : Option Value} {a : Nat} {m : jmM} {Q : Option Value → jmM → Prop} : AW d 188 77 [l0, l1] [.null, .ref a] m Q ↔ (mS m a).1 = 12 ∧ AW d 188 80 [l0, l1] [] (cR m a (jup (mR m a) 17 none)) Q := A_putQ (x := none) hB_X12_init dX12_init_77 hO_X12_init fF_12_35 rfl (fun _ => ⟨rfl, rfl⟩)
theorem dX12_init_80 : decode cX12_init 80 = .ok (.aload_n 0, 1) := by decide +kernel
theorem tX12_init_80 {d : Nat} {l1 : Option Value} {x : Nat} {m : jmM} {Q : Option Value → jmM → Prop} : AW d 188 80 [some (.ref x), l1] [] m Q ↔ AW d 188 81 [some (.ref x), l1] [.ref x] m Q := A_aload_n hB_X12_init dX12_init_80 rfl
theorem dX12_init_81 : decode cX12_init 81 = .ok (.bipush 80, 2) := by decide +kernel
theorem tX12_init_81 {d : Nat} {l0 l1 : Option Value} {v0 : Value} {m : jmM} {Q : Option Value → jmM → Prop} : AW d 188 81 [l0, l1] [v0] m Q ↔ AW d 188 83 [l0, l1] [.int 80, v0] m Q := A_bipush hB_X12_init dX12_init_81 rfl
theorem dX12_init_83 : decode cX12_init 83 = .ok (.newarray .long, 2) := by decide +kernel
theorem tX12_init_83 {d : Nat} {l0 l1 : Option Value} {v1 : Value} {x : Int32} {m : jmM} {Q : Option Value → jmM → Prop} : AW d 188 83 [l0, l1] [.int x, v1] m Q ↔ (0 ≤ x.toInt ∧ x.toInt ≤ 100000) ∧ AW d 188 85 [l0, l1] [.ref (mN m), v1] (jNew m 21 (jx x)) Q := A_newarray hB_X12_init dX12_init_83 rfl
theorem dX12_init_85 : decode cX12_init 85 = .ok (.putfield 38, 3) := by decide +kernel
theorem tX12_init_85 {d : Nat} {l0 l1 : Option Value} {x a : Nat} {m : jmM} {Q : Option Value → jmM → Prop} : AW d 188 85 [l0, l1] [.ref x, .ref a] m Q ↔ (mS m a).1 = 12 ∧ AW d 188 88 [l0, l1] [] (cR m a (jup (mR m a) 20 (some x))) Q := A_putR hB_X12_init dX12_init_85 hO_X12_init fF_12_38 rfl (fun _ => ⟨rfl, rfl⟩)
theorem tX12_init_85q {d : Nat} {l0 l1 : Option Value} {x : Option Nat} {a : Nat} {m : jmM} {Q : Option Value → jmM → Prop} : AW d 188 85 [l0, l1] [va_rf x, .ref a] m Q ↔ (mS m a).1 = 12 ∧ AW d 188 88 [l0, l1] [] (cR m a (jup (mR m a) 20 x)) Q := A_putQ hB_X12_init dX12_init_85 hO_X12_init fF_12_38 rfl (fun _ => ⟨rfl, rfl⟩)
theorem tX12_init_85n {d : Nat} {l0 l1 : Option Value} {a : Nat} {m : jmM} {Q : Option Value → jmM → Prop} : AW d 188 85 [l0, l1] [.null, .ref a] m Q ↔ (mS m a).1 = 12 ∧ AW d 188 88 [l0, l1] [] (cR m a (jup (mR m a) 20 none)) Q := A_putQ (x := none) hB_X12_init dX12_init_85 hO_X12_init fF_12_38 rfl (fun _ => ⟨rfl, rfl⟩)
theorem dX12_init_88 : decode cX12_init 88 = .ok (.aload_n 0, 1) := by decide +kernel
theorem tX12_init_88 {d : Nat} {l1 : Option Value} {x : Nat} {m : jmM} {Q : Option Value → jmM → Prop} : AW d 188 88 [some (.ref x), l1] [] m Q ↔ AW d 188 89 [some (.ref x), l1] [.ref x] m Q := A_aload_n hB_X12_init dX12_init_88 rfl
theorem dX12_init_89 : decode cX12_init 89 = .ok (.bipush 9, 2) := by decide +kernel
theorem tX12_init_89 {d : Nat} {l0 l1 : Option Value} {v0 : Value} {m : jmM} {Q : Option Value → jmM → Prop} : AW d 188 89 [l0, l1] [v0] m Q ↔ AW d 188 91 [l0, l1] [.int 9, v0] m Q := A_bipush hB_X12_init dX12_init_89 rfl
theorem dX12_init_91 : decode cX12_init 91 = .ok (.newarray .long, 2) := by decide +kernel
theorem tX12_init_91 {d : Nat} {l0 l1 : Option Value} {v1 : Value} {x : Int32} {m : jmM} {Q : Option Value → jmM → Prop} : AW d 188 91 [l0, l1] [.int x, v1] m Q ↔ (0 ≤ x.toInt ∧ x.toInt ≤ 100000) ∧ AW d 188 93 [l0, l1] [.ref (mN m), v1] (jNew m 21 (jx x)) Q := A_newarray hB_X12_init dX12_init_91 rfl
theorem dX12_init_93 : decode cX12_init 93 = .ok (.putfield 42, 3) := by decide +kernel
theorem tX12_init_93 {d : Nat} {l0 l1 : Option Value} {x a : Nat} {m : jmM} {Q : Option Value → jmM → Prop} : AW d 188 93 [l0, l1] [.ref x, .ref a] m Q ↔ (mS m a).1 = 12 ∧ AW d 188 96 [l0, l1] [] (cR m a (jup (mR m a) 22 (some x))) Q := A_putR hB_X12_init dX12_init_93 hO_X12_init fF_12_42 rfl (fun _ => ⟨rfl, rfl⟩)
theorem tX12_init_93q {d : Nat} {l0 l1 : Option Value} {x : Option Nat} {a : Nat} {m : jmM} {Q : Option Value → jmM → Prop} : AW d 188 93 [l0, l1] [va_rf x, .ref a] m Q ↔ (mS m a).1 = 12 ∧ AW d 188 96 [l0, l1] [] (cR m a (jup (mR m a) 22 x)) Q := A_putQ hB_X12_init dX12_init_93 hO_X12_init fF_12_42 rfl (fun _ => ⟨rfl, rfl⟩)
theorem tX12_init_93n {d : Nat} {l0 l1 : Option Value} {a : Nat} {m : jmM} {Q : Option Value → jmM → Prop} : AW d 188 93 [l0, l1] [.null, .ref a] m Q ↔ (mS m a).1 = 12 ∧ AW d 188 96 [l0, l1] [] (cR m a (jup (mR m a) 22 none)) Q := A_putQ (x := none) hB_X12_init dX12_init_93 hO_X12_init fF_12_42 rfl (fun _ => ⟨rfl, rfl⟩)
theorem dX12_init_96 : decode cX12_init 96 = .ok (.aload_n 0, 1) := by decide +kernel
theorem tX12_init_96 {d : Nat} {l1 : Option Value} {x : Nat} {m : jmM} {Q : Option Value → jmM → Prop} : AW d 188 96 [some (.ref x), l1] [] m Q ↔ AW d 188 97 [some (.ref x), l1] [.ref x] m Q := A_aload_n hB_X12_init dX12_init_96 rfl
theorem dX12_init_97 : decode cX12_init 97 = .ok (.bipush 6, 2) := by decide +kernel
theorem tX12_init_97 {d : Nat} {l0 l1 : Option Value} {v0 : Value} {m : jmM} {Q : Option Value → jmM → Prop} : AW d 188 97 [l0, l1] [v0] m Q ↔ AW d 188 99 [l0, l1] [.int 6, v0] m Q := A_bipush hB_X12_init dX12_init_97 rfl
theorem dX12_init_99 : decode cX12_init 99 = .ok (.newarray .int, 2) := by decide +kernel
theorem tX12_init_99 {d : Nat} {l0 l1 : Option Value} {v1 : Value} {x : Int32} {m : jmM} {Q : Option Value → jmM → Prop} : AW d 188 99 [l0, l1] [.int x, v1] m Q ↔ (0 ≤ x.toInt ∧ x.toInt ≤ 100000) ∧ AW d 188 101 [l0, l1] [.ref (mN m), v1] (jNew m 20 (jx x)) Q := A_newarray hB_X12_init dX12_init_99 rfl
theorem dX12_init_101 : decode cX12_init 101 = .ok (.putfield 45, 3) := by decide +kernel
theorem tX12_init_101 {d : Nat} {l0 l1 : Option Value} {x a : Nat} {m : jmM} {Q : Option Value → jmM → Prop} : AW d 188 101 [l0, l1] [.ref x, .ref a] m Q ↔ (mS m a).1 = 12 ∧ AW d 188 104 [l0, l1] [] (cR m a (jup (mR m a) 23 (some x))) Q := A_putR hB_X12_init dX12_init_101 hO_X12_init fF_12_45 rfl (fun _ => ⟨rfl, rfl⟩)
theorem tX12_init_101q {d : Nat} {l0 l1 : Option Value} {x : Option Nat} {a : Nat} {m : jmM} {Q : Option Value → jmM → Prop} : AW d 188 101 [l0, l1] [va_rf x, .ref a] m Q ↔ (mS m a).1 = 12 ∧ AW d 188 104 [l0, l1] [] (cR m a (jup (mR m a) 23 x)) Q := A_putQ hB_X12_init dX12_init_101 hO_X12_init fF_12_45 rfl (fun _ => ⟨rfl, rfl⟩)
theorem tX12_init_101n {d : Nat} {l0 l1 : Option Value} {a : Nat} {m : jmM} {Q : Option Value → jmM → Prop} : AW d 188 101 [l0, l1] [.null, .ref a] m Q ↔ (mS m a).1 = 12 ∧ AW d 188 104 [l0, l1] [] (cR m a (jup (mR m a) 23 none)) Q := A_putQ (x := none) hB_X12_init dX12_init_101 hO_X12_init fF_12_45 rfl (fun _ => ⟨rfl, rfl⟩)
theorem dX12_init_104 : decode cX12_init 104 = .ok (.aload_n 0, 1) := by decide +kernel
theorem tX12_init_104 {d : Nat} {l1 : Option Value} {x : Nat} {m : jmM} {Q : Option Value → jmM → Prop} : AW d 188 104 [some (.ref x), l1] [] m Q ↔ AW d 188 105 [some (.ref x), l1] [.ref x] m Q := A_aload_n hB_X12_init dX12_init_104 rfl
theorem dX12_init_105 : decode cX12_init 105 = .ok (.bipush 6, 2) := by decide +kernel
theorem tX12_init_105 {d : Nat} {l0 l1 : Option Value} {v0 : Value} {m : jmM} {Q : Option Value → jmM → Prop} : AW d 188 105 [l0, l1] [v0] m Q ↔ AW d 188 107 [l0, l1] [.int 6, v0] m Q := A_bipush hB_X12_init dX12_init_105 rfl
theorem dX12_init_107 : decode cX12_init 107 = .ok (.newarray .int, 2) := by decide +kernel
theorem tX12_init_107 {d : Nat} {l0 l1 : Option Value} {v1 : Value} {x : Int32} {m : jmM} {Q : Option Value → jmM → Prop} : AW d 188 107 [l0, l1] [.int x, v1] m Q ↔ (0 ≤ x.toInt ∧ x.toInt ≤ 100000) ∧ AW d 188 109 [l0, l1] [.ref (mN m), v1] (jNew m 20 (jx x)) Q := A_newarray hB_X12_init dX12_init_107 rfl
theorem dX12_init_109 : decode cX12_init 109 = .ok (.putfield 48, 3) := by decide +kernel
theorem tX12_init_109 {d : Nat} {l0 l1 : Option Value} {x a : Nat} {m : jmM} {Q : Option Value → jmM → Prop} : AW d 188 109 [l0, l1] [.ref x, .ref a] m Q ↔ (mS m a).1 = 12 ∧ AW d 188 112 [l0, l1] [] (cR m a (jup (mR m a) 24 (some x))) Q := A_putR hB_X12_init dX12_init_109 hO_X12_init fF_12_48 rfl (fun _ => ⟨rfl, rfl⟩)
theorem tX12_init_109q {d : Nat} {l0 l1 : Option Value} {x : Option Nat} {a : Nat} {m : jmM} {Q : Option Value → jmM → Prop} : AW d 188 109 [l0, l1] [va_rf x, .ref a] m Q ↔ (mS m a).1 = 12 ∧ AW d 188 112 [l0, l1] [] (cR m a (jup (mR m a) 24 x)) Q := A_putQ hB_X12_init dX12_init_109 hO_X12_init fF_12_48 rfl (fun _ => ⟨rfl, rfl⟩)
theorem tX12_init_109n {d : Nat} {l0 l1 : Option Value} {a : Nat} {m : jmM} {Q : Option Value → jmM → Prop} : AW d 188 109 [l0, l1] [.null, .ref a] m Q ↔ (mS m a).1 = 12 ∧ AW d 188 112 [l0, l1] [] (cR m a (jup (mR m a) 24 none)) Q := A_putQ (x := none) hB_X12_init dX12_init_109 hO_X12_init fF_12_48 rfl (fun _ => ⟨rfl, rfl⟩)
theorem dX12_init_112 : decode cX12_init 112 = .ok (.aload_n 0, 1) := by decide +kernel
theorem tX12_init_112 {d : Nat} {l1 : Option Value} {x : Nat} {m : jmM} {Q : Option Value → jmM → Prop} : AW d 188 112 [some (.ref x), l1] [] m Q ↔ AW d 188 113 [some (.ref x), l1] [.ref x] m Q := A_aload_n hB_X12_init dX12_init_112 rfl
theorem dX12_init_113 : decode cX12_init 113 = .ok (.bipush 17, 2) := by decide +kernel
theorem tX12_init_113 {d : Nat} {l0 l1 : Option Value} {v0 : Value} {m : jmM} {Q : Option Value → jmM → Prop} : AW d 188 113 [l0, l1] [v0] m Q ↔ AW d 188 115 [l0, l1] [.int 17, v0] m Q := A_bipush hB_X12_init dX12_init_113 rfl
theorem dX12_init_115 : decode cX12_init 115 = .ok (.newarray .int, 2) := by decide +kernel
theorem tX12_init_115 {d : Nat} {l0 l1 : Option Value} {v1 : Value} {x : Int32} {m : jmM} {Q : Option Value → jmM → Prop} : AW d 188 115 [l0, l1] [.int x, v1] m Q ↔ (0 ≤ x.toInt ∧ x.toInt ≤ 100000) ∧ AW d 188 117 [l0, l1] [.ref (mN m), v1] (jNew m 20 (jx x)) Q := A_newarray hB_X12_init dX12_init_115 rfl
theorem dX12_init_117 : decode cX12_init 117 = .ok (.putfield 51, 3) := by decide +kernel
theorem tX12_init_117 {d : Nat} {l0 l1 : Option Value} {x a : Nat} {m : jmM} {Q : Option Value → jmM → Prop} : AW d 188 117 [l0, l1] [.ref x, .ref a] m Q ↔ (mS m a).1 = 12 ∧ AW d 188 120 [l0, l1] [] (cR m a (jup (mR m a) 25 (some x))) Q := A_putR hB_X12_init dX12_init_117 hO_X12_init fF_12_51 rfl (fun _ => ⟨rfl, rfl⟩)
theorem tX12_init_117q {d : Nat} {l0 l1 : Option Value} {x : Option Nat} {a : Nat} {m : jmM} {Q : Option Value → jmM → Prop} : AW d 188 117 [l0, l1] [va_rf x, .ref a] m Q ↔ (mS m a).1 = 12 ∧ AW d 188 120 [l0, l1] [] (cR m a (jup (mR m a) 25 x)) Q := A_putQ hB_X12_init dX12_init_117 hO_X12_init fF_12_51 rfl (fun _ => ⟨rfl, rfl⟩)
theorem tX12_init_117n {d : Nat} {l0 l1 : Option Value} {a : Nat} {m : jmM} {Q : Option Value → jmM → Prop} : AW d 188 117 [l0, l1] [.null, .ref a] m Q ↔ (mS m a).1 = 12 ∧ AW d 188 120 [l0, l1] [] (cR m a (jup (mR m a) 25 none)) Q := A_putQ (x := none) hB_X12_init dX12_init_117 hO_X12_init fF_12_51 rfl (fun _ => ⟨rfl, rfl⟩)
theorem dX12_init_120 : decode cX12_init 120 = .ok (.aload_n 0, 1) := by decide +kernel
theorem tX12_init_120 {d : Nat} {l1 : Option Value} {x : Nat} {m : jmM} {Q : Option Value → jmM → Prop} : AW d 188 120 [some (.ref x), l1] [] m Q ↔ AW d 188 121 [some (.ref x), l1] [.ref x] m Q := A_aload_n hB_X12_init dX12_init_120 rfl
theorem dX12_init_121 : decode cX12_init 121 = .ok (.bipush 6, 2) := by decide +kernel
theorem tX12_init_121 {d : Nat} {l0 l1 : Option Value} {v0 : Value} {m : jmM} {Q : Option Value → jmM → Prop} : AW d 188 121 [l0, l1] [v0] m Q ↔ AW d 188 123 [l0, l1] [.int 6, v0] m Q := A_bipush hB_X12_init dX12_init_121 rfl
theorem dX12_init_123 : decode cX12_init 123 = .ok (.newarray .long, 2) := by decide +kernel
theorem tX12_init_123 {d : Nat} {l0 l1 : Option Value} {v1 : Value} {x : Int32} {m : jmM} {Q : Option Value → jmM → Prop} : AW d 188 123 [l0, l1] [.int x, v1] m Q ↔ (0 ≤ x.toInt ∧ x.toInt ≤ 100000) ∧ AW d 188 125 [l0, l1] [.ref (mN m), v1] (jNew m 21 (jx x)) Q := A_newarray hB_X12_init dX12_init_123 rfl
theorem dX12_init_125 : decode cX12_init 125 = .ok (.putfield 54, 3) := by decide +kernel
theorem tX12_init_125 {d : Nat} {l0 l1 : Option Value} {x a : Nat} {m : jmM} {Q : Option Value → jmM → Prop} : AW d 188 125 [l0, l1] [.ref x, .ref a] m Q ↔ (mS m a).1 = 12 ∧ AW d 188 128 [l0, l1] [] (cR m a (jup (mR m a) 26 (some x))) Q := A_putR hB_X12_init dX12_init_125 hO_X12_init fF_12_54 rfl (fun _ => ⟨rfl, rfl⟩)
theorem tX12_init_125q {d : Nat} {l0 l1 : Option Value} {x : Option Nat} {a : Nat} {m : jmM} {Q : Option Value → jmM → Prop} : AW d 188 125 [l0, l1] [va_rf x, .ref a] m Q ↔ (mS m a).1 = 12 ∧ AW d 188 128 [l0, l1] [] (cR m a (jup (mR m a) 26 x)) Q := A_putQ hB_X12_init dX12_init_125 hO_X12_init fF_12_54 rfl (fun _ => ⟨rfl, rfl⟩)
theorem tX12_init_125n {d : Nat} {l0 l1 : Option Value} {a : Nat} {m : jmM} {Q : Option Value → jmM → Prop} : AW d 188 125 [l0, l1] [.null, .ref a] m Q ↔ (mS m a).1 = 12 ∧ AW d 188 128 [l0, l1] [] (cR m a (jup (mR m a) 26 none)) Q := A_putQ (x := none) hB_X12_init dX12_init_125 hO_X12_init fF_12_54 rfl (fun _ => ⟨rfl, rfl⟩)
theorem dX12_init_128 : decode cX12_init 128 = .ok (.aload_n 0, 1) := by decide +kernel
theorem tX12_init_128 {d : Nat} {l1 : Option Value} {x : Nat} {m : jmM} {Q : Option Value → jmM → Prop} : AW d 188 128 [some (.ref x), l1] [] m Q ↔ AW d 188 129 [some (.ref x), l1] [.ref x] m Q := A_aload_n hB_X12_init dX12_init_128 rfl
theorem dX12_init_129 : decode cX12_init 129 = .ok (.bipush 6, 2) := by decide +kernel
theorem tX12_init_129 {d : Nat} {l0 l1 : Option Value} {v0 : Value} {m : jmM} {Q : Option Value → jmM → Prop} : AW d 188 129 [l0, l1] [v0] m Q ↔ AW d 188 131 [l0, l1] [.int 6, v0] m Q := A_bipush hB_X12_init dX12_init_129 rfl
theorem dX12_init_131 : decode cX12_init 131 = .ok (.newarray .int, 2) := by decide +kernel
theorem tX12_init_131 {d : Nat} {l0 l1 : Option Value} {v1 : Value} {x : Int32} {m : jmM} {Q : Option Value → jmM → Prop} : AW d 188 131 [l0, l1] [.int x, v1] m Q ↔ (0 ≤ x.toInt ∧ x.toInt ≤ 100000) ∧ AW d 188 133 [l0, l1] [.ref (mN m), v1] (jNew m 20 (jx x)) Q := A_newarray hB_X12_init dX12_init_131 rfl
theorem dX12_init_133 : decode cX12_init 133 = .ok (.putfield 57, 3) := by decide +kernel
theorem tX12_init_133 {d : Nat} {l0 l1 : Option Value} {x a : Nat} {m : jmM} {Q : Option Value → jmM → Prop} : AW d 188 133 [l0, l1] [.ref x, .ref a] m Q ↔ (mS m a).1 = 12 ∧ AW d 188 136 [l0, l1] [] (cR m a (jup (mR m a) 27 (some x))) Q := A_putR hB_X12_init dX12_init_133 hO_X12_init fF_12_57 rfl (fun _ => ⟨rfl, rfl⟩)
theorem tX12_init_133q {d : Nat} {l0 l1 : Option Value} {x : Option Nat} {a : Nat} {m : jmM} {Q : Option Value → jmM → Prop} : AW d 188 133 [l0, l1] [va_rf x, .ref a] m Q ↔ (mS m a).1 = 12 ∧ AW d 188 136 [l0, l1] [] (cR m a (jup (mR m a) 27 x)) Q := A_putQ hB_X12_init dX12_init_133 hO_X12_init fF_12_57 rfl (fun _ => ⟨rfl, rfl⟩)
theorem tX12_init_133n {d : Nat} {l0 l1 : Option Value} {a : Nat} {m : jmM} {Q : Option Value → jmM → Prop} : AW d 188 133 [l0, l1] [.null, .ref a] m Q ↔ (mS m a).1 = 12 ∧ AW d 188 136 [l0, l1] [] (cR m a (jup (mR m a) 27 none)) Q := A_putQ (x := none) hB_X12_init dX12_init_133 hO_X12_init fF_12_57 rfl (fun _ => ⟨rfl, rfl⟩)
theorem dX12_init_136 : decode cX12_init 136 = .ok (.aload_n 0, 1) := by decide +kernel
theorem tX12_init_136 {d : Nat} {l1 : Option Value} {x : Nat} {m : jmM} {Q : Option Value → jmM → Prop} : AW d 188 136 [some (.ref x), l1] [] m Q ↔ AW d 188 137 [some (.ref x), l1] [.ref x] m Q := A_aload_n hB_X12_init dX12_init_136 rfl
theorem dX12_init_137 : decode cX12_init 137 = .ok (.bipush 6, 2) := by decide +kernel
theorem tX12_init_137 {d : Nat} {l0 l1 : Option Value} {v0 : Value} {m : jmM} {Q : Option Value → jmM → Prop} : AW d 188 137 [l0, l1] [v0] m Q ↔ AW d 188 139 [l0, l1] [.int 6, v0] m Q := A_bipush hB_X12_init dX12_init_137 rfl
theorem dX12_init_139 : decode cX12_init 139 = .ok (.newarray .int, 2) := by decide +kernel
theorem tX12_init_139 {d : Nat} {l0 l1 : Option Value} {v1 : Value} {x : Int32} {m : jmM} {Q : Option Value → jmM → Prop} : AW d 188 139 [l0, l1] [.int x, v1] m Q ↔ (0 ≤ x.toInt ∧ x.toInt ≤ 100000) ∧ AW d 188 141 [l0, l1] [.ref (mN m), v1] (jNew m 20 (jx x)) Q := A_newarray hB_X12_init dX12_init_139 rfl
theorem dX12_init_141 : decode cX12_init 141 = .ok (.putfield 60, 3) := by decide +kernel
theorem tX12_init_141 {d : Nat} {l0 l1 : Option Value} {x a : Nat} {m : jmM} {Q : Option Value → jmM → Prop} : AW d 188 141 [l0, l1] [.ref x, .ref a] m Q ↔ (mS m a).1 = 12 ∧ AW d 188 144 [l0, l1] [] (cR m a (jup (mR m a) 28 (some x))) Q := A_putR hB_X12_init dX12_init_141 hO_X12_init fF_12_60 rfl (fun _ => ⟨rfl, rfl⟩)
theorem tX12_init_141q {d : Nat} {l0 l1 : Option Value} {x : Option Nat} {a : Nat} {m : jmM} {Q : Option Value → jmM → Prop} : AW d 188 141 [l0, l1] [va_rf x, .ref a] m Q ↔ (mS m a).1 = 12 ∧ AW d 188 144 [l0, l1] [] (cR m a (jup (mR m a) 28 x)) Q := A_putQ hB_X12_init dX12_init_141 hO_X12_init fF_12_60 rfl (fun _ => ⟨rfl, rfl⟩)
theorem tX12_init_141n {d : Nat} {l0 l1 : Option Value} {a : Nat} {m : jmM} {Q : Option Value → jmM → Prop} : AW d 188 141 [l0, l1] [.null, .ref a] m Q ↔ (mS m a).1 = 12 ∧ AW d 188 144 [l0, l1] [] (cR m a (jup (mR m a) 28 none)) Q := A_putQ (x := none) hB_X12_init dX12_init_141 hO_X12_init fF_12_60 rfl (fun _ => ⟨rfl, rfl⟩)
theorem dX12_init_144 : decode cX12_init 144 = .ok (.aload_n 0, 1) := by decide +kernel
theorem tX12_init_144 {d : Nat} {l1 : Option Value} {x : Nat} {m : jmM} {Q : Option Value → jmM → Prop} : AW d 188 144 [some (.ref x), l1] [] m Q ↔ AW d 188 145 [some (.ref x), l1] [.ref x] m Q := A_aload_n hB_X12_init dX12_init_144 rfl
theorem dX12_init_145 : decode cX12_init 145 = .ok (.sipush 3600, 3) := by decide +kernel
theorem tX12_init_145 {d : Nat} {l0 l1 : Option Value} {v0 : Value} {m : jmM} {Q : Option Value → jmM → Prop} : AW d 188 145 [l0, l1] [v0] m Q ↔ AW d 188 148 [l0, l1] [.int 3600, v0] m Q := A_sipush hB_X12_init dX12_init_145 rfl
theorem dX12_init_148 : decode cX12_init 148 = .ok (.newarray .int, 2) := by decide +kernel
theorem tX12_init_148 {d : Nat} {l0 l1 : Option Value} {v1 : Value} {x : Int32} {m : jmM} {Q : Option Value → jmM → Prop} : AW d 188 148 [l0, l1] [.int x, v1] m Q ↔ (0 ≤ x.toInt ∧ x.toInt ≤ 100000) ∧ AW d 188 150 [l0, l1] [.ref (mN m), v1] (jNew m 20 (jx x)) Q := A_newarray hB_X12_init dX12_init_148 rfl
theorem dX12_init_150 : decode cX12_init 150 = .ok (.putfield 63, 3) := by decide +kernel
theorem tX12_init_150 {d : Nat} {l0 l1 : Option Value} {x a : Nat} {m : jmM} {Q : Option Value → jmM → Prop} : AW d 188 150 [l0, l1] [.ref x, .ref a] m Q ↔ (mS m a).1 = 12 ∧ AW d 188 153 [l0, l1] [] (cR m a (jup (mR m a) 29 (some x))) Q := A_putR hB_X12_init dX12_init_150 hO_X12_init fF_12_63 rfl (fun _ => ⟨rfl, rfl⟩)
theorem tX12_init_150q {d : Nat} {l0 l1 : Option Value} {x : Option Nat} {a : Nat} {m : jmM} {Q : Option Value → jmM → Prop} : AW d 188 150 [l0, l1] [va_rf x, .ref a] m Q ↔ (mS m a).1 = 12 ∧ AW d 188 153 [l0, l1] [] (cR m a (jup (mR m a) 29 x)) Q := A_putQ hB_X12_init dX12_init_150 hO_X12_init fF_12_63 rfl (fun _ => ⟨rfl, rfl⟩)
theorem tX12_init_150n {d : Nat} {l0 l1 : Option Value} {a : Nat} {m : jmM} {Q : Option Value → jmM → Prop} : AW d 188 150 [l0, l1] [.null, .ref a] m Q ↔ (mS m a).1 = 12 ∧ AW d 188 153 [l0, l1] [] (cR m a (jup (mR m a) 29 none)) Q := A_putQ (x := none) hB_X12_init dX12_init_150 hO_X12_init fF_12_63 rfl (fun _ => ⟨rfl, rfl⟩)
theorem dX12_init_153 : decode cX12_init 153 = .ok (.aload_n 0, 1) := by decide +kernel
theorem tX12_init_153 {d : Nat} {l1 : Option Value} {x : Nat} {m : jmM} {Q : Option Value → jmM → Prop} : AW d 188 153 [some (.ref x), l1] [] m Q ↔ AW d 188 154 [some (.ref x), l1] [.ref x] m Q := A_aload_n hB_X12_init dX12_init_153 rfl
theorem dX12_init_154 : decode cX12_init 154 = .ok (.sipush 3600, 3) := by decide +kernel
theorem tX12_init_154 {d : Nat} {l0 l1 : Option Value} {v0 : Value} {m : jmM} {Q : Option Value → jmM → Prop} : AW d 188 154 [l0, l1] [v0] m Q ↔ AW d 188 157 [l0, l1] [.int 3600, v0] m Q := A_sipush hB_X12_init dX12_init_154 rfl
theorem dX12_init_157 : decode cX12_init 157 = .ok (.newarray .long, 2) := by decide +kernel
theorem tX12_init_157 {d : Nat} {l0 l1 : Option Value} {v1 : Value} {x : Int32} {m : jmM} {Q : Option Value → jmM → Prop} : AW d 188 157 [l0, l1] [.int x, v1] m Q ↔ (0 ≤ x.toInt ∧ x.toInt ≤ 100000) ∧ AW d 188 159 [l0, l1] [.ref (mN m), v1] (jNew m 21 (jx x)) Q := A_newarray hB_X12_init dX12_init_157 rfl
theorem dX12_init_159 : decode cX12_init 159 = .ok (.putfield 66, 3) := by decide +kernel
theorem tX12_init_159 {d : Nat} {l0 l1 : Option Value} {x a : Nat} {m : jmM} {Q : Option Value → jmM → Prop} : AW d 188 159 [l0, l1] [.ref x, .ref a] m Q ↔ (mS m a).1 = 12 ∧ AW d 188 162 [l0, l1] [] (cR m a (jup (mR m a) 30 (some x))) Q := A_putR hB_X12_init dX12_init_159 hO_X12_init fF_12_66 rfl (fun _ => ⟨rfl, rfl⟩)
theorem tX12_init_159q {d : Nat} {l0 l1 : Option Value} {x : Option Nat} {a : Nat} {m : jmM} {Q : Option Value → jmM → Prop} : AW d 188 159 [l0, l1] [va_rf x, .ref a] m Q ↔ (mS m a).1 = 12 ∧ AW d 188 162 [l0, l1] [] (cR m a (jup (mR m a) 30 x)) Q := A_putQ hB_X12_init dX12_init_159 hO_X12_init fF_12_66 rfl (fun _ => ⟨rfl, rfl⟩)
theorem tX12_init_159n {d : Nat} {l0 l1 : Option Value} {a : Nat} {m : jmM} {Q : Option Value → jmM → Prop} : AW d 188 159 [l0, l1] [.null, .ref a] m Q ↔ (mS m a).1 = 12 ∧ AW d 188 162 [l0, l1] [] (cR m a (jup (mR m a) 30 none)) Q := A_putQ (x := none) hB_X12_init dX12_init_159 hO_X12_init fF_12_66 rfl (fun _ => ⟨rfl, rfl⟩)
theorem dX12_init_162 : decode cX12_init 162 = .ok (.aload_n 0, 1) := by decide +kernel
theorem tX12_init_162 {d : Nat} {l1 : Option Value} {x : Nat} {m : jmM} {Q : Option Value → jmM → Prop} : AW d 188 162 [some (.ref x), l1] [] m Q ↔ AW d 188 163 [some (.ref x), l1] [.ref x] m Q := A_aload_n hB_X12_init dX12_init_162 rfl
theorem dX12_init_163 : decode cX12_init 163 = .ok (.bipush 30, 2) := by decide +kernel
theorem tX12_init_163 {d : Nat} {l0 l1 : Option Value} {v0 : Value} {m : jmM} {Q : Option Value → jmM → Prop} : AW d 188 163 [l0, l1] [v0] m Q ↔ AW d 188 165 [l0, l1] [.int 30, v0] m Q := A_bipush hB_X12_init dX12_init_163 rfl
theorem dX12_init_165 : decode cX12_init 165 = .ok (.putfield 69, 3) := by decide +kernel
theorem tX12_init_165 {d : Nat} {l0 l1 : Option Value} {x : Int32} {a : Nat} {m : jmM} {Q : Option Value → jmM → Prop} : AW d 188 165 [l0, l1] [.int x, .ref a] m Q ↔ (mS m a).1 = 12 ∧ AW d 188 168 [l0, l1] [] (cI m a (jup (mI m a) 31 x)) Q := A_putI hB_X12_init dX12_init_165 hO_X12_init fF_12_69 rfl (fun h => Bool.noConfusion h)
theorem dX12_init_168 : decode cX12_init 168 = .ok (.aload_n 0, 1) := by decide +kernel
theorem tX12_init_168 {d : Nat} {l1 : Option Value} {x : Nat} {m : jmM} {Q : Option Value → jmM → Prop} : AW d 188 168 [some (.ref x), l1] [] m Q ↔ AW d 188 169 [some (.ref x), l1] [.ref x] m Q := A_aload_n hB_X12_init dX12_init_168 rfl
theorem dX12_init_169 : decode cX12_init 169 = .ok (.bipush 48, 2) := by decide +kernel
theorem tX12_init_169 {d : Nat} {l0 l1 : Option Value} {v0 : Value} {m : jmM} {Q : Option Value → jmM → Prop} : AW d 188 169 [l0, l1] [v0] m Q ↔ AW d 188 171 [l0, l1] [.int 48, v0] m Q := A_bipush hB_X12_init dX12_init_169 rfl
theorem dX12_init_171 : decode cX12_init 171 = .ok (.newarray .int, 2) := by decide +kernel
theorem tX12_init_171 {d : Nat} {l0 l1 : Option Value} {v1 : Value} {x : Int32} {m : jmM} {Q : Option Value → jmM → Prop} : AW d 188 171 [l0, l1] [.int x, v1] m Q ↔ (0 ≤ x.toInt ∧ x.toInt ≤ 100000) ∧ AW d 188 173 [l0, l1] [.ref (mN m), v1] (jNew m 20 (jx x)) Q := A_newarray hB_X12_init dX12_init_171 rfl
theorem dX12_init_173 : decode cX12_init 173 = .ok (.putfield 73, 3) := by decide +kernel
theorem tX12_init_173 {d : Nat} {l0 l1 : Option Value} {x a : Nat} {m : jmM} {Q : Option Value → jmM → Prop} : AW d 188 173 [l0, l1] [.ref x, .ref a] m Q ↔ (mS m a).1 = 12 ∧ AW d 188 176 [l0, l1] [] (cR m a (jup (mR m a) 33 (some x))) Q := A_putR hB_X12_init dX12_init_173 hO_X12_init fF_12_73 rfl (fun _ => ⟨rfl, rfl⟩)
theorem tX12_init_173q {d : Nat} {l0 l1 : Option Value} {x : Option Nat} {a : Nat} {m : jmM} {Q : Option Value → jmM → Prop} : AW d 188 173 [l0, l1] [va_rf x, .ref a] m Q ↔ (mS m a).1 = 12 ∧ AW d 188 176 [l0, l1] [] (cR m a (jup (mR m a) 33 x)) Q := A_putQ hB_X12_init dX12_init_173 hO_X12_init fF_12_73 rfl (fun _ => ⟨rfl, rfl⟩)
theorem tX12_init_173n {d : Nat} {l0 l1 : Option Value} {a : Nat} {m : jmM} {Q : Option Value → jmM → Prop} : AW d 188 173 [l0, l1] [.null, .ref a] m Q ↔ (mS m a).1 = 12 ∧ AW d 188 176 [l0, l1] [] (cR m a (jup (mR m a) 33 none)) Q := A_putQ (x := none) hB_X12_init dX12_init_173 hO_X12_init fF_12_73 rfl (fun _ => ⟨rfl, rfl⟩)
theorem dX12_init_176 : decode cX12_init 176 = .ok (.aload_n 0, 1) := by decide +kernel
theorem tX12_init_176 {d : Nat} {l1 : Option Value} {x : Nat} {m : jmM} {Q : Option Value → jmM → Prop} : AW d 188 176 [some (.ref x), l1] [] m Q ↔ AW d 188 177 [some (.ref x), l1] [.ref x] m Q := A_aload_n hB_X12_init dX12_init_176 rfl
theorem dX12_init_177 : decode cX12_init 177 = .ok (.sipush 601, 3) := by decide +kernel
theorem tX12_init_177 {d : Nat} {l0 l1 : Option Value} {v0 : Value} {m : jmM} {Q : Option Value → jmM → Prop} : AW d 188 177 [l0, l1] [v0] m Q ↔ AW d 188 180 [l0, l1] [.int 601, v0] m Q := A_sipush hB_X12_init dX12_init_177 rfl
theorem dX12_init_180 : decode cX12_init 180 = .ok (.newarray .int, 2) := by decide +kernel
theorem tX12_init_180 {d : Nat} {l0 l1 : Option Value} {v1 : Value} {x : Int32} {m : jmM} {Q : Option Value → jmM → Prop} : AW d 188 180 [l0, l1] [.int x, v1] m Q ↔ (0 ≤ x.toInt ∧ x.toInt ≤ 100000) ∧ AW d 188 182 [l0, l1] [.ref (mN m), v1] (jNew m 20 (jx x)) Q := A_newarray hB_X12_init dX12_init_180 rfl
theorem dX12_init_182 : decode cX12_init 182 = .ok (.putfield 76, 3) := by decide +kernel
theorem tX12_init_182 {d : Nat} {l0 l1 : Option Value} {x a : Nat} {m : jmM} {Q : Option Value → jmM → Prop} : AW d 188 182 [l0, l1] [.ref x, .ref a] m Q ↔ (mS m a).1 = 12 ∧ AW d 188 185 [l0, l1] [] (cR m a (jup (mR m a) 34 (some x))) Q := A_putR hB_X12_init dX12_init_182 hO_X12_init fF_12_76 rfl (fun _ => ⟨rfl, rfl⟩)
theorem tX12_init_182q {d : Nat} {l0 l1 : Option Value} {x : Option Nat} {a : Nat} {m : jmM} {Q : Option Value → jmM → Prop} : AW d 188 182 [l0, l1] [va_rf x, .ref a] m Q ↔ (mS m a).1 = 12 ∧ AW d 188 185 [l0, l1] [] (cR m a (jup (mR m a) 34 x)) Q := A_putQ hB_X12_init dX12_init_182 hO_X12_init fF_12_76 rfl (fun _ => ⟨rfl, rfl⟩)
theorem tX12_init_182n {d : Nat} {l0 l1 : Option Value} {a : Nat} {m : jmM} {Q : Option Value → jmM → Prop} : AW d 188 182 [l0, l1] [.null, .ref a] m Q ↔ (mS m a).1 = 12 ∧ AW d 188 185 [l0, l1] [] (cR m a (jup (mR m a) 34 none)) Q := A_putQ (x := none) hB_X12_init dX12_init_182 hO_X12_init fF_12_76 rfl (fun _ => ⟨rfl, rfl⟩)
theorem dX12_init_185 : decode cX12_init 185 = .ok (.aload_n 0, 1) := by decide +kernel
theorem tX12_init_185 {d : Nat} {l1 : Option Value} {x : Nat} {m : jmM} {Q : Option Value → jmM → Prop} : AW d 188 185 [some (.ref x), l1] [] m Q ↔ AW d 188 186 [some (.ref x), l1] [.ref x] m Q := A_aload_n hB_X12_init dX12_init_185 rfl
theorem dX12_init_186 : decode cX12_init 186 = .ok (.sipush 600, 3) := by decide +kernel
theorem tX12_init_186 {d : Nat} {l0 l1 : Option Value} {v0 : Value} {m : jmM} {Q : Option Value → jmM → Prop} : AW d 188 186 [l0, l1] [v0] m Q ↔ AW d 188 189 [l0, l1] [.int 600, v0] m Q := A_sipush hB_X12_init dX12_init_186 rfl
theorem dX12_init_189 : decode cX12_init 189 = .ok (.newarray .int, 2) := by decide +kernel
theorem tX12_init_189 {d : Nat} {l0 l1 : Option Value} {v1 : Value} {x : Int32} {m : jmM} {Q : Option Value → jmM → Prop} : AW d 188 189 [l0, l1] [.int x, v1] m Q ↔ (0 ≤ x.toInt ∧ x.toInt ≤ 100000) ∧ AW d 188 191 [l0, l1] [.ref (mN m), v1] (jNew m 20 (jx x)) Q := A_newarray hB_X12_init dX12_init_189 rfl
theorem dX12_init_191 : decode cX12_init 191 = .ok (.putfield 79, 3) := by decide +kernel
theorem tX12_init_191 {d : Nat} {l0 l1 : Option Value} {x a : Nat} {m : jmM} {Q : Option Value → jmM → Prop} : AW d 188 191 [l0, l1] [.ref x, .ref a] m Q ↔ (mS m a).1 = 12 ∧ AW d 188 194 [l0, l1] [] (cR m a (jup (mR m a) 35 (some x))) Q := A_putR hB_X12_init dX12_init_191 hO_X12_init fF_12_79 rfl (fun _ => ⟨rfl, rfl⟩)
theorem tX12_init_191q {d : Nat} {l0 l1 : Option Value} {x : Option Nat} {a : Nat} {m : jmM} {Q : Option Value → jmM → Prop} : AW d 188 191 [l0, l1] [va_rf x, .ref a] m Q ↔ (mS m a).1 = 12 ∧ AW d 188 194 [l0, l1] [] (cR m a (jup (mR m a) 35 x)) Q := A_putQ hB_X12_init dX12_init_191 hO_X12_init fF_12_79 rfl (fun _ => ⟨rfl, rfl⟩)
theorem tX12_init_191n {d : Nat} {l0 l1 : Option Value} {a : Nat} {m : jmM} {Q : Option Value → jmM → Prop} : AW d 188 191 [l0, l1] [.null, .ref a] m Q ↔ (mS m a).1 = 12 ∧ AW d 188 194 [l0, l1] [] (cR m a (jup (mR m a) 35 none)) Q := A_putQ (x := none) hB_X12_init dX12_init_191 hO_X12_init fF_12_79 rfl (fun _ => ⟨rfl, rfl⟩)
theorem dX12_init_194 : decode cX12_init 194 = .ok (.aload_n 0, 1) := by decide +kernel
theorem tX12_init_194 {d : Nat} {l1 : Option Value} {x : Nat} {m : jmM} {Q : Option Value → jmM → Prop} : AW d 188 194 [some (.ref x), l1] [] m Q ↔ AW d 188 195 [some (.ref x), l1] [.ref x] m Q := A_aload_n hB_X12_init dX12_init_194 rfl
theorem dX12_init_195 : decode cX12_init 195 = .ok (.sipush 600, 3) := by decide +kernel
theorem tX12_init_195 {d : Nat} {l0 l1 : Option Value} {v0 : Value} {m : jmM} {Q : Option Value → jmM → Prop} : AW d 188 195 [l0, l1] [v0] m Q ↔ AW d 188 198 [l0, l1] [.int 600, v0] m Q := A_sipush hB_X12_init dX12_init_195 rfl
theorem dX12_init_198 : decode cX12_init 198 = .ok (.newarray .int, 2) := by decide +kernel
theorem tX12_init_198 {d : Nat} {l0 l1 : Option Value} {v1 : Value} {x : Int32} {m : jmM} {Q : Option Value → jmM → Prop} : AW d 188 198 [l0, l1] [.int x, v1] m Q ↔ (0 ≤ x.toInt ∧ x.toInt ≤ 100000) ∧ AW d 188 200 [l0, l1] [.ref (mN m), v1] (jNew m 20 (jx x)) Q := A_newarray hB_X12_init dX12_init_198 rfl
theorem dX12_init_200 : decode cX12_init 200 = .ok (.putfield 82, 3) := by decide +kernel
theorem tX12_init_200 {d : Nat} {l0 l1 : Option Value} {x a : Nat} {m : jmM} {Q : Option Value → jmM → Prop} : AW d 188 200 [l0, l1] [.ref x, .ref a] m Q ↔ (mS m a).1 = 12 ∧ AW d 188 203 [l0, l1] [] (cR m a (jup (mR m a) 36 (some x))) Q := A_putR hB_X12_init dX12_init_200 hO_X12_init fF_12_82 rfl (fun _ => ⟨rfl, rfl⟩)
theorem tX12_init_200q {d : Nat} {l0 l1 : Option Value} {x : Option Nat} {a : Nat} {m : jmM} {Q : Option Value → jmM → Prop} : AW d 188 200 [l0, l1] [va_rf x, .ref a] m Q ↔ (mS m a).1 = 12 ∧ AW d 188 203 [l0, l1] [] (cR m a (jup (mR m a) 36 x)) Q := A_putQ hB_X12_init dX12_init_200 hO_X12_init fF_12_82 rfl (fun _ => ⟨rfl, rfl⟩)
theorem tX12_init_200n {d : Nat} {l0 l1 : Option Value} {a : Nat} {m : jmM} {Q : Option Value → jmM → Prop} : AW d 188 200 [l0, l1] [.null, .ref a] m Q ↔ (mS m a).1 = 12 ∧ AW d 188 203 [l0, l1] [] (cR m a (jup (mR m a) 36 none)) Q := A_putQ (x := none) hB_X12_init dX12_init_200 hO_X12_init fF_12_82 rfl (fun _ => ⟨rfl, rfl⟩)
theorem dX12_init_203 : decode cX12_init 203 = .ok (.aload_n 0, 1) := by decide +kernel
theorem tX12_init_203 {d : Nat} {l1 : Option Value} {x : Nat} {m : jmM} {Q : Option Value → jmM → Prop} : AW d 188 203 [some (.ref x), l1] [] m Q ↔ AW d 188 204 [some (.ref x), l1] [.ref x] m Q := A_aload_n hB_X12_init dX12_init_203 rfl
theorem dX12_init_204 : decode cX12_init 204 = .ok (.sipush 400, 3) := by decide +kernel
theorem tX12_init_204 {d : Nat} {l0 l1 : Option Value} {v0 : Value} {m : jmM} {Q : Option Value → jmM → Prop} : AW d 188 204 [l0, l1] [v0] m Q ↔ AW d 188 207 [l0, l1] [.int 400, v0] m Q := A_sipush hB_X12_init dX12_init_204 rfl
theorem dX12_init_207 : decode cX12_init 207 = .ok (.newarray .int, 2) := by decide +kernel
theorem tX12_init_207 {d : Nat} {l0 l1 : Option Value} {v1 : Value} {x : Int32} {m : jmM} {Q : Option Value → jmM → Prop} : AW d 188 207 [l0, l1] [.int x, v1] m Q ↔ (0 ≤ x.toInt ∧ x.toInt ≤ 100000) ∧ AW d 188 209 [l0, l1] [.ref (mN m), v1] (jNew m 20 (jx x)) Q := A_newarray hB_X12_init dX12_init_207 rfl
theorem dX12_init_209 : decode cX12_init 209 = .ok (.putfield 85, 3) := by decide +kernel
theorem tX12_init_209 {d : Nat} {l0 l1 : Option Value} {x a : Nat} {m : jmM} {Q : Option Value → jmM → Prop} : AW d 188 209 [l0, l1] [.ref x, .ref a] m Q ↔ (mS m a).1 = 12 ∧ AW d 188 212 [l0, l1] [] (cR m a (jup (mR m a) 38 (some x))) Q := A_putR hB_X12_init dX12_init_209 hO_X12_init fF_12_85 rfl (fun _ => ⟨rfl, rfl⟩)
theorem tX12_init_209q {d : Nat} {l0 l1 : Option Value} {x : Option Nat} {a : Nat} {m : jmM} {Q : Option Value → jmM → Prop} : AW d 188 209 [l0, l1] [va_rf x, .ref a] m Q ↔ (mS m a).1 = 12 ∧ AW d 188 212 [l0, l1] [] (cR m a (jup (mR m a) 38 x)) Q := A_putQ hB_X12_init dX12_init_209 hO_X12_init fF_12_85 rfl (fun _ => ⟨rfl, rfl⟩)
theorem tX12_init_209n {d : Nat} {l0 l1 : Option Value} {a : Nat} {m : jmM} {Q : Option Value → jmM → Prop} : AW d 188 209 [l0, l1] [.null, .ref a] m Q ↔ (mS m a).1 = 12 ∧ AW d 188 212 [l0, l1] [] (cR m a (jup (mR m a) 38 none)) Q := A_putQ (x := none) hB_X12_init dX12_init_209 hO_X12_init fF_12_85 rfl (fun _ => ⟨rfl, rfl⟩)
theorem dX12_init_212 : decode cX12_init 212 = .ok (.aload_n 0, 1) := by decide +kernel
theorem tX12_init_212 {d : Nat} {l1 : Option Value} {x : Nat} {m : jmM} {Q : Option Value → jmM → Prop} : AW d 188 212 [some (.ref x), l1] [] m Q ↔ AW d 188 213 [some (.ref x), l1] [.ref x] m Q := A_aload_n hB_X12_init dX12_init_212 rfl
theorem dX12_init_213 : decode cX12_init 213 = .ok (.sipush 18220, 3) := by decide +kernel
theorem tX12_init_213 {d : Nat} {l0 l1 : Option Value} {v0 : Value} {m : jmM} {Q : Option Value → jmM → Prop} : AW d 188 213 [l0, l1] [v0] m Q ↔ AW d 188 216 [l0, l1] [.int 18220, v0] m Q := A_sipush hB_X12_init dX12_init_213 rfl
theorem dX12_init_216 : decode cX12_init 216 = .ok (.newarray .int, 2) := by decide +kernel
theorem tX12_init_216 {d : Nat} {l0 l1 : Option Value} {v1 : Value} {x : Int32} {m : jmM} {Q : Option Value → jmM → Prop} : AW d 188 216 [l0, l1] [.int x, v1] m Q ↔ (0 ≤ x.toInt ∧ x.toInt ≤ 100000) ∧ AW d 188 218 [l0, l1] [.ref (mN m), v1] (jNew m 20 (jx x)) Q := A_newarray hB_X12_init dX12_init_216 rfl
theorem dX12_init_218 : decode cX12_init 218 = .ok (.putfield 88, 3) := by decide +kernel
theorem tX12_init_218 {d : Nat} {l0 l1 : Option Value} {x a : Nat} {m : jmM} {Q : Option Value → jmM → Prop} : AW d 188 218 [l0, l1] [.ref x, .ref a] m Q ↔ (mS m a).1 = 12 ∧ AW d 188 221 [l0, l1] [] (cR m a (jup (mR m a) 41 (some x))) Q := A_putR hB_X12_init dX12_init_218 hO_X12_init fF_12_88 rfl (fun _ => ⟨rfl, rfl⟩)
theorem tX12_init_218q {d : Nat} {l0 l1 : Option Value} {x : Option Nat} {a : Nat} {m : jmM} {Q : Option Value → jmM → Prop} : AW d 188 218 [l0, l1] [va_rf x, .ref a] m Q ↔ (mS m a).1 = 12 ∧ AW d 188 221 [l0, l1] [] (cR m a (jup (mR m a) 41 x)) Q := A_putQ hB_X12_init dX12_init_218 hO_X12_init fF_12_88 rfl (fun _ => ⟨rfl, rfl⟩)
theorem tX12_init_218n {d : Nat} {l0 l1 : Option Value} {a : Nat} {m : jmM} {Q : Option Value → jmM → Prop} : AW d 188 218 [l0, l1] [.null, .ref a] m Q ↔ (mS m a).1 = 12 ∧ AW d 188 221 [l0, l1] [] (cR m a (jup (mR m a) 41 none)) Q := A_putQ (x := none) hB_X12_init dX12_init_218 hO_X12_init fF_12_88 rfl (fun _ => ⟨rfl, rfl⟩)
theorem dX12_init_221 : decode cX12_init 221 = .ok (.aload_n 0, 1) := by decide +kernel
theorem tX12_init_221 {d : Nat} {l1 : Option Value} {x : Nat} {m : jmM} {Q : Option Value → jmM → Prop} : AW d 188 221 [some (.ref x), l1] [] m Q ↔ AW d 188 222 [some (.ref x), l1] [.ref x] m Q := A_aload_n hB_X12_init dX12_init_221 rfl
theorem dX12_init_222 : decode cX12_init 222 = .ok (.sipush 18030, 3) := by decide +kernel
theorem tX12_init_222 {d : Nat} {l0 l1 : Option Value} {v0 : Value} {m : jmM} {Q : Option Value → jmM → Prop} : AW d 188 222 [l0, l1] [v0] m Q ↔ AW d 188 225 [l0, l1] [.int 18030, v0] m Q := A_sipush hB_X12_init dX12_init_222 rfl
theorem dX12_init_225 : decode cX12_init 225 = .ok (.newarray .long, 2) := by decide +kernel
theorem tX12_init_225 {d : Nat} {l0 l1 : Option Value} {v1 : Value} {x : Int32} {m : jmM} {Q : Option Value → jmM → Prop} : AW d 188 225 [l0, l1] [.int x, v1] m Q ↔ (0 ≤ x.toInt ∧ x.toInt ≤ 100000) ∧ AW d 188 227 [l0, l1] [.ref (mN m), v1] (jNew m 21 (jx x)) Q := A_newarray hB_X12_init dX12_init_225 rfl
theorem dX12_init_227 : decode cX12_init 227 = .ok (.putfield 91, 3) := by decide +kernel
theorem tX12_init_227 {d : Nat} {l0 l1 : Option Value} {x a : Nat} {m : jmM} {Q : Option Value → jmM → Prop} : AW d 188 227 [l0, l1] [.ref x, .ref a] m Q ↔ (mS m a).1 = 12 ∧ AW d 188 230 [l0, l1] [] (cR m a (jup (mR m a) 42 (some x))) Q := A_putR hB_X12_init dX12_init_227 hO_X12_init fF_12_91 rfl (fun _ => ⟨rfl, rfl⟩)
theorem tX12_init_227q {d : Nat} {l0 l1 : Option Value} {x : Option Nat} {a : Nat} {m : jmM} {Q : Option Value → jmM → Prop} : AW d 188 227 [l0, l1] [va_rf x, .ref a] m Q ↔ (mS m a).1 = 12 ∧ AW d 188 230 [l0, l1] [] (cR m a (jup (mR m a) 42 x)) Q := A_putQ hB_X12_init dX12_init_227 hO_X12_init fF_12_91 rfl (fun _ => ⟨rfl, rfl⟩)
theorem tX12_init_227n {d : Nat} {l0 l1 : Option Value} {a : Nat} {m : jmM} {Q : Option Value → jmM → Prop} : AW d 188 227 [l0, l1] [.null, .ref a] m Q ↔ (mS m a).1 = 12 ∧ AW d 188 230 [l0, l1] [] (cR m a (jup (mR m a) 42 none)) Q := A_putQ (x := none) hB_X12_init dX12_init_227 hO_X12_init fF_12_91 rfl (fun _ => ⟨rfl, rfl⟩)
theorem dX12_init_230 : decode cX12_init 230 = .ok (.aload_n 0, 1) := by decide +kernel
theorem tX12_init_230 {d : Nat} {l1 : Option Value} {x : Nat} {m : jmM} {Q : Option Value → jmM → Prop} : AW d 188 230 [some (.ref x), l1] [] m Q ↔ AW d 188 231 [some (.ref x), l1] [.ref x] m Q := A_aload_n hB_X12_init dX12_init_230 rfl
theorem dX12_init_231 : decode cX12_init 231 = .ok (.iconst 4, 1) := by decide +kernel
theorem tX12_init_231 {d : Nat} {l0 l1 : Option Value} {v0 : Value} {m : jmM} {Q : Option Value → jmM → Prop} : AW d 188 231 [l0, l1] [v0] m Q ↔ AW d 188 232 [l0, l1] [.int 4, v0] m Q := A_iconst hB_X12_init dX12_init_231 (by decide)
theorem dX12_init_232 : decode cX12_init 232 = .ok (.newarray .boolean, 2) := by decide +kernel
theorem tX12_init_232 {d : Nat} {l0 l1 : Option Value} {v1 : Value} {x : Int32} {m : jmM} {Q : Option Value → jmM → Prop} : AW d 188 232 [l0, l1] [.int x, v1] m Q ↔ (0 ≤ x.toInt ∧ x.toInt ≤ 100000) ∧ AW d 188 234 [l0, l1] [.ref (mN m), v1] (jNew m 23 (jx x)) Q := A_newarray hB_X12_init dX12_init_232 rfl
theorem dX12_init_234 : decode cX12_init 234 = .ok (.putfield 94, 3) := by decide +kernel
theorem tX12_init_234 {d : Nat} {l0 l1 : Option Value} {x a : Nat} {m : jmM} {Q : Option Value → jmM → Prop} : AW d 188 234 [l0, l1] [.ref x, .ref a] m Q ↔ (mS m a).1 = 12 ∧ AW d 188 237 [l0, l1] [] (cR m a (jup (mR m a) 43 (some x))) Q := A_putR hB_X12_init dX12_init_234 hO_X12_init fF_12_94 rfl (fun _ => ⟨rfl, rfl⟩)
theorem tX12_init_234q {d : Nat} {l0 l1 : Option Value} {x : Option Nat} {a : Nat} {m : jmM} {Q : Option Value → jmM → Prop} : AW d 188 234 [l0, l1] [va_rf x, .ref a] m Q ↔ (mS m a).1 = 12 ∧ AW d 188 237 [l0, l1] [] (cR m a (jup (mR m a) 43 x)) Q := A_putQ hB_X12_init dX12_init_234 hO_X12_init fF_12_94 rfl (fun _ => ⟨rfl, rfl⟩)
theorem tX12_init_234n {d : Nat} {l0 l1 : Option Value} {a : Nat} {m : jmM} {Q : Option Value → jmM → Prop} : AW d 188 234 [l0, l1] [.null, .ref a] m Q ↔ (mS m a).1 = 12 ∧ AW d 188 237 [l0, l1] [] (cR m a (jup (mR m a) 43 none)) Q := A_putQ (x := none) hB_X12_init dX12_init_234 hO_X12_init fF_12_94 rfl (fun _ => ⟨rfl, rfl⟩)
theorem dX12_init_237 : decode cX12_init 237 = .ok (.aload_n 0, 1) := by decide +kernel
theorem tX12_init_237 {d : Nat} {l1 : Option Value} {x : Nat} {m : jmM} {Q : Option Value → jmM → Prop} : AW d 188 237 [some (.ref x), l1] [] m Q ↔ AW d 188 238 [some (.ref x), l1] [.ref x] m Q := A_aload_n hB_X12_init dX12_init_237 rfl
theorem dX12_init_238 : decode cX12_init 238 = .ok (.sipush 400, 3) := by decide +kernel
theorem tX12_init_238 {d : Nat} {l0 l1 : Option Value} {v0 : Value} {m : jmM} {Q : Option Value → jmM → Prop} : AW d 188 238 [l0, l1] [v0] m Q ↔ AW d 188 241 [l0, l1] [.int 400, v0] m Q := A_sipush hB_X12_init dX12_init_238 rfl
theorem dX12_init_241 : decode cX12_init 241 = .ok (.newarray .int, 2) := by decide +kernel
theorem tX12_init_241 {d : Nat} {l0 l1 : Option Value} {v1 : Value} {x : Int32} {m : jmM} {Q : Option Value → jmM → Prop} : AW d 188 241 [l0, l1] [.int x, v1] m Q ↔ (0 ≤ x.toInt ∧ x.toInt ≤ 100000) ∧ AW d 188 243 [l0, l1] [.ref (mN m), v1] (jNew m 20 (jx x)) Q := A_newarray hB_X12_init dX12_init_241 rfl
theorem dX12_init_243 : decode cX12_init 243 = .ok (.putfield 98, 3) := by decide +kernel
theorem tX12_init_243 {d : Nat} {l0 l1 : Option Value} {x a : Nat} {m : jmM} {Q : Option Value → jmM → Prop} : AW d 188 243 [l0, l1] [.ref x, .ref a] m Q ↔ (mS m a).1 = 12 ∧ AW d 188 246 [l0, l1] [] (cR m a (jup (mR m a) 48 (some x))) Q := A_putR hB_X12_init dX12_init_243 hO_X12_init fF_12_98 rfl (fun _ => ⟨rfl, rfl⟩)
theorem tX12_init_243q {d : Nat} {l0 l1 : Option Value} {x : Option Nat} {a : Nat} {m : jmM} {Q : Option Value → jmM → Prop} : AW d 188 243 [l0, l1] [va_rf x, .ref a] m Q ↔ (mS m a).1 = 12 ∧ AW d 188 246 [l0, l1] [] (cR m a (jup (mR m a) 48 x)) Q := A_putQ hB_X12_init dX12_init_243 hO_X12_init fF_12_98 rfl (fun _ => ⟨rfl, rfl⟩)
theorem tX12_init_243n {d : Nat} {l0 l1 : Option Value} {a : Nat} {m : jmM} {Q : Option Value → jmM → Prop} : AW d 188 243 [l0, l1] [.null, .ref a] m Q ↔ (mS m a).1 = 12 ∧ AW d 188 246 [l0, l1] [] (cR m a (jup (mR m a) 48 none)) Q := A_putQ (x := none) hB_X12_init dX12_init_243 hO_X12_init fF_12_98 rfl (fun _ => ⟨rfl, rfl⟩)
theorem dX12_init_246 : decode cX12_init 246 = .ok (.iconst 0, 1) := by decide +kernel
theorem tX12_init_246 {d : Nat} {l0 l1 : Option Value} {m : jmM} {Q : Option Value → jmM → Prop} : AW d 188 246 [l0, l1] [] m Q ↔ AW d 188 247 [l0, l1] [.int 0] m Q := A_iconst hB_X12_init dX12_init_246 (by decide)
theorem dX12_init_247 : decode cX12_init 247 = .ok (.istore_n 1, 1) := by decide +kernel
theorem tX12_init_247 {d : Nat} {l0 l1 : Option Value} {x : Int32} {m : jmM} {Q : Option Value → jmM → Prop} : AW d 188 247 [l0, l1] [.int x] m Q ↔ AW d 188 248 [jc1 l0, some (.int x)] [] m Q := A_istore_n hB_X12_init dX12_init_247 (Nat.le_of_ble_eq_true rfl) rfl
theorem dX12_init_248 : decode cX12_init 248 = .ok (.iload_n 1, 1) := by decide +kernel
theorem tX12_init_248 {d : Nat} {l0 : Option Value} {x : Int32} {m : jmM} {Q : Option Value → jmM → Prop} : AW d 188 248 [l0, some (.int x)] [] m Q ↔ AW d 188 249 [l0, some (.int x)] [.int x] m Q := A_iload_n hB_X12_init dX12_init_248 rfl
theorem dX12_init_249 : decode cX12_init 249 = .ok (.bipush 6, 2) := by decide +kernel
theorem tX12_init_249 {d : Nat} {l0 l1 : Option Value} {v0 : Value} {m : jmM} {Q : Option Value → jmM → Prop} : AW d 188 249 [l0, l1] [v0] m Q ↔ AW d 188 251 [l0, l1] [.int 6, v0] m Q := A_bipush hB_X12_init dX12_init_249 rfl
theorem dX12_init_251 : decode cX12_init 251 = .ok (.if_icmp .ge 18, 3) := by decide +kernel
theorem tX12_init_251 {d : Nat} {l0 l1 : Option Value} {x y : Int32} {m : jmM} {Q : Option Value → jmM → Prop} : AW d 188 251 [l0, l1] [.int y, .int x] m Q ↔ if y ≤ x then AW d 188 269 [l0, l1] [] m Q else AW d 188 254 [l0, l1] [] m Q := A_icmp_ge hB_X12_init dX12_init_251 (by decide)
theorem dX12_init_254 : decode cX12_init 254 = .ok (.aload_n 0, 1) := by decide +kernel
theorem tX12_init_254 {d : Nat} {l1 : Option Value} {x : Nat} {m : jmM} {Q : Option Value → jmM → Prop} : AW d 188 254 [some (.ref x), l1] [] m Q ↔ AW d 188 255 [some (.ref x), l1] [.ref x] m Q := A_aload_n hB_X12_init dX12_init_254 rfl
theorem dX12_init_255 : decode cX12_init 255 = .ok (.getfield 48, 3) := by decide +kernel
theorem tX12_init_255 {d : Nat} {l0 l1 : Option Value} {a : Nat} {m : jmM} {Q : Option Value → jmM → Prop} : AW d 188 255 [l0, l1] [.ref a] m Q ↔ (mS m a).1 = 12 ∧ AW d 188 258 [l0, l1] [va_rf (mR m a 24)] m Q := A_getfield (f := fun m a => va_rf (mR m a 24)) hB_X12_init dX12_init_255 hO_X12_init fF_12_48 rfl
theorem dX12_init_258 : decode cX12_init 258 = .ok (.iload_n 1, 1) := by decide +kernel
theorem tX12_init_258 {d : Nat} {l0 : Option Value} {v0 : Value} {x : Int32} {m : jmM} {Q : Option Value → jmM → Prop} : AW d 188 258 [l0, some (.int x)] [v0] m Q ↔ AW d 188 259 [l0, some (.int x)] [.int x, v0] m Q := A_iload_n hB_X12_init dX12_init_258 rfl
theorem dX12_init_259 : decode cX12_init 259 = .ok (.sipush 1000, 3) := by decide +kernel
theorem tX12_init_259 {d : Nat} {l0 l1 : Option Value} {v0 v1 : Value} {m : jmM} {Q : Option Value → jmM → Prop} : AW d 188 259 [l0, l1] [v0, v1] m Q ↔ AW d 188 262 [l0, l1] [.int 1000, v0, v1] m Q := A_sipush hB_X12_init dX12_init_259 rfl
theorem dX12_init_262 : decode cX12_init 262 = .ok (.iastore, 1) := by decide +kernel
theorem tX12_init_262 {d : Nat} {l0 l1 : Option Value} {x i : Int32} {a : Nat} {m : jmM} {Q : Option Value → jmM → Prop} : AW d 188 262 [l0, l1] [.int x, .int i, .ref a] m Q ↔ ((mS m a).1 = 20 ∧ jIx i (mS m a).2) ∧ AW d 188 263 [l0, l1] [] (cI m a (jup (mI m a) (jx i) x)) Q := A_iastore hB_X12_init dX12_init_262
theorem dX12_init_263 : decode cX12_init 263 = .ok (.iinc 1 1, 3) := by decide +kernel
theorem tX12_init_263 {d : Nat} {l0 : Option Value} {x : Int32} {m : jmM} {Q : Option Value → jmM → Prop} : AW d 188 263 [l0, some (.int x)] [] m Q ↔ AW d 188 266 [jc1 l0, some (.int (x + 1))] [] m Q := A_iinc hB_X12_init dX12_init_263 rfl (Nat.le_of_ble_eq_true rfl) (v := 1) (by decide) rfl
theorem dX12_init_266 : decode cX12_init 266 = .ok (.goto (-18), 3) := by decide +kernel
theorem tX12_init_266 {d : Nat} {l0 l1 : Option Value} {m : jmM} {Q : Option Value → jmM → Prop} : AW d 188 266 [l0, l1] [] m Q ↔ AW d 188 248 [l0, l1] [] m Q := A_goto hB_X12_init dX12_init_266 (by decide)
theorem dX12_init_269 : decode cX12_init 269 = .ok (.return_, 1) := by decide +kernel
theorem tX12_init_269 {d : Nat} {l0 l1 : Option Value} {m : jmM} {Q : Option Value → jmM → Prop} : AW d 188 269 [l0, l1] [] m Q ↔ Q none m := A_return hB_X12_init dX12_init_269 hR_X12_init
theorem hB_X12_in : jB 189 = cX12_in := rfl
theorem hO_X12_in : jO 189 = 12 := rfl
theorem hR_X12_in : jRt 189 = (some .boolean) := rfl
theorem nX12_in (d : Nat) (x0 : Int64) (x1 : Int64) (x2 : Int64) (m : jmM) (Q : Option Value → jmM → Prop) : CC (d + 1) 189 [.long x0, .long x1, .long x2] m Q ↔ AW d 189 0 [some (.long x0), none, some (.long x1), none, some (.long x2), none] [] m Q := CC_body (Nat.le_of_ble_eq_true rfl)
theorem dX12_in_0 : decode cX12_in 0 = .ok (.lload_n 0, 1) := by decide +kernel
theorem tX12_in_0 {d : Nat} {l1 l2 l3 l4 l5 : Option Value} {x : Int64} {m : jmM} {Q : Option Value → jmM → Prop} : AW d 189 0 [some (.long x), l1, l2, l3, l4, l5] [] m Q ↔ AW d 189 1 [some (.long x), l1, l2, l3, l4, l5] [.long x] m Q := A_lload_n hB_X12_in dX12_in_0 rfl
theorem dX12_in_1 : decode cX12_in 1 = .ok (.lload_n 2, 1) := by decide +kernel
theorem tX12_in_1 {d : Nat} {l0 l1 l3 l4 l5 : Option Value} {v0 : Value} {x : Int64} {m : jmM} {Q : Option Value → jmM → Prop} : AW d 189 1 [l0, l1, some (.long x), l3, l4, l5] [v0] m Q ↔ AW d 189 2 [l0, l1, some (.long x), l3, l4, l5] [.long x, v0] m Q := A_lload_n hB_X12_in dX12_in_1 rfl
theorem dX12_in_2 : decode cX12_in 2 = .ok (.lcmp, 1) := by decide +kernel
theorem tX12_in_2 {d : Nat} {l0 l1 l2 l3 l4 l5 : Option Value} {x y : Int64} {m : jmM} {Q : Option Value → jmM → Prop} : AW d 189 2 [l0, l1, l2, l3, l4, l5] [.long y, .long x] m Q ↔ AW d 189 3 [l0, l1, l2, l3, l4, l5] [.int (lg_cmp x y)] m Q := A_lcmp hB_X12_in dX12_in_2
theorem dX12_in_3 : decode cX12_in 3 = .ok (.ifCond .lt 14, 3) := by decide +kernel
theorem tX12_in_3 {d : Nat} {l0 l1 l2 l3 l4 l5 : Option Value} {x : Int32} {m : jmM} {Q : Option Value → jmM → Prop} : AW d 189 3 [l0, l1, l2, l3, l4, l5] [.int x] m Q ↔ if x < 0 then AW d 189 17 [l0, l1, l2, l3, l4, l5] [] m Q else AW d 189 6 [l0, l1, l2, l3, l4, l5] [] m Q := A_if_lt hB_X12_in dX12_in_3 (by decide)
theorem dX12_in_6 : decode cX12_in 6 = .ok (.lload_n 0, 1) := by decide +kernel
theorem tX12_in_6 {d : Nat} {l1 l2 l3 l4 l5 : Option Value} {x : Int64} {m : jmM} {Q : Option Value → jmM → Prop} : AW d 189 6 [some (.long x), l1, l2, l3, l4, l5] [] m Q ↔ AW d 189 7 [some (.long x), l1, l2, l3, l4, l5] [.long x] m Q := A_lload_n hB_X12_in dX12_in_6 rfl
theorem dX12_in_7 : decode cX12_in 7 = .ok (.lload 4, 2) := by decide +kernel
theorem tX12_in_7 {d : Nat} {l0 l1 l2 l3 l5 : Option Value} {v0 : Value} {x : Int64} {m : jmM} {Q : Option Value → jmM → Prop} : AW d 189 7 [l0, l1, l2, l3, some (.long x), l5] [v0] m Q ↔ AW d 189 9 [l0, l1, l2, l3, some (.long x), l5] [.long x, v0] m Q := A_lload hB_X12_in dX12_in_7 rfl
theorem dX12_in_9 : decode cX12_in 9 = .ok (.lcmp, 1) := by decide +kernel
theorem tX12_in_9 {d : Nat} {l0 l1 l2 l3 l4 l5 : Option Value} {x y : Int64} {m : jmM} {Q : Option Value → jmM → Prop} : AW d 189 9 [l0, l1, l2, l3, l4, l5] [.long y, .long x] m Q ↔ AW d 189 10 [l0, l1, l2, l3, l4, l5] [.int (lg_cmp x y)] m Q := A_lcmp hB_X12_in dX12_in_9
theorem dX12_in_10 : decode cX12_in 10 = .ok (.ifCond .gt 7, 3) := by decide +kernel
theorem tX12_in_10 {d : Nat} {l0 l1 l2 l3 l4 l5 : Option Value} {x : Int32} {m : jmM} {Q : Option Value → jmM → Prop} : AW d 189 10 [l0, l1, l2, l3, l4, l5] [.int x] m Q ↔ if 0 < x then AW d 189 17 [l0, l1, l2, l3, l4, l5] [] m Q else AW d 189 13 [l0, l1, l2, l3, l4, l5] [] m Q := A_if_gt hB_X12_in dX12_in_10 (by decide)
theorem dX12_in_13 : decode cX12_in 13 = .ok (.iconst 1, 1) := by decide +kernel
theorem tX12_in_13 {d : Nat} {l0 l1 l2 l3 l4 l5 : Option Value} {m : jmM} {Q : Option Value → jmM → Prop} : AW d 189 13 [l0, l1, l2, l3, l4, l5] [] m Q ↔ AW d 189 14 [l0, l1, l2, l3, l4, l5] [.int 1] m Q := A_iconst hB_X12_in dX12_in_13 (by decide)
theorem dX12_in_14 : decode cX12_in 14 = .ok (.goto 4, 3) := by decide +kernel
theorem tX12_in_14 {d : Nat} {l0 l1 l2 l3 l4 l5 : Option Value} {v0 : Value} {m : jmM} {Q : Option Value → jmM → Prop} : AW d 189 14 [l0, l1, l2, l3, l4, l5] [v0] m Q ↔ AW d 189 18 [l0, l1, l2, l3, l4, l5] [v0] m Q := A_goto hB_X12_in dX12_in_14 (by decide)
theorem dX12_in_17 : decode cX12_in 17 = .ok (.iconst 0, 1) := by decide +kernel
theorem tX12_in_17 {d : Nat} {l0 l1 l2 l3 l4 l5 : Option Value} {m : jmM} {Q : Option Value → jmM → Prop} : AW d 189 17 [l0, l1, l2, l3, l4, l5] [] m Q ↔ AW d 189 18 [l0, l1, l2, l3, l4, l5] [.int 0] m Q := A_iconst hB_X12_in dX12_in_17 (by decide)
theorem dX12_in_18 : decode cX12_in 18 = .ok (.ireturn, 1) := by decide +kernel
theorem tX12_in_18 {d : Nat} {l0 l1 l2 l3 l4 l5 : Option Value} {x : Int32} {m : jmM} {Q : Option Value → jmM → Prop} : AW d 189 18 [l0, l1, l2, l3, l4, l5] [.int x] m Q ↔ jBool x ∧ Q (some (.int x)) m := A_zreturn hB_X12_in dX12_in_18 hR_X12_in
theorem hB_X12_held : jB 190 = cX12_held := rfl
theorem hO_X12_held : jO 190 = 12 := rfl
theorem hR_X12_held : jRt 190 = (some .long) := rfl
theorem nX12_held (d : Nat) (x0 : Int64) (x1 : Int64) (x2 : Int64) (m : jmM) (Q : Option Value → jmM → Prop) : CC (d + 1) 190 [.long x0, .long x1, .long x2] m Q ↔ AW d 190 0 [some (.long x0), none, some (.long x1), none, some (.long x2), none] [] m Q := CC_body (Nat.le_of_ble_eq_true rfl)
theorem dX12_held_0 : decode cX12_held 0 = .ok (.lload_n 0, 1) := by decide +kernel
theorem tX12_held_0 {d : Nat} {l1 l2 l3 l4 l5 : Option Value} {x : Int64} {m : jmM} {Q : Option Value → jmM → Prop} : AW d 190 0 [some (.long x), l1, l2, l3, l4, l5] [] m Q ↔ AW d 190 1 [some (.long x), l1, l2, l3, l4, l5] [.long x] m Q := A_lload_n hB_X12_held dX12_held_0 rfl
theorem dX12_held_1 : decode cX12_held 1 = .ok (.lload_n 2, 1) := by decide +kernel
theorem tX12_held_1 {d : Nat} {l0 l1 l3 l4 l5 : Option Value} {v0 : Value} {x : Int64} {m : jmM} {Q : Option Value → jmM → Prop} : AW d 190 1 [l0, l1, some (.long x), l3, l4, l5] [v0] m Q ↔ AW d 190 2 [l0, l1, some (.long x), l3, l4, l5] [.long x, v0] m Q := A_lload_n hB_X12_held dX12_held_1 rfl
theorem dX12_held_2 : decode cX12_held 2 = .ok (.lcmp, 1) := by decide +kernel
theorem tX12_held_2 {d : Nat} {l0 l1 l2 l3 l4 l5 : Option Value} {x y : Int64} {m : jmM} {Q : Option Value → jmM → Prop} : AW d 190 2 [l0, l1, l2, l3, l4, l5] [.long y, .long x] m Q ↔ AW d 190 3 [l0, l1, l2, l3, l4, l5] [.int (lg_cmp x y)] m Q := A_lcmp hB_X12_held dX12_held_2
theorem dX12_held_3 : decode cX12_held 3 = .ok (.ifCond .ge 7, 3) := by decide +kernel
theorem tX12_held_3 {d : Nat} {l0 l1 l2 l3 l4 l5 : Option Value} {x : Int32} {m : jmM} {Q : Option Value → jmM → Prop} : AW d 190 3 [l0, l1, l2, l3, l4, l5] [.int x] m Q ↔ if 0 ≤ x then AW d 190 10 [l0, l1, l2, l3, l4, l5] [] m Q else AW d 190 6 [l0, l1, l2, l3, l4, l5] [] m Q := A_if_ge hB_X12_held dX12_held_3 (by decide)
theorem dX12_held_6 : decode cX12_held 6 = .ok (.lload_n 2, 1) := by decide +kernel
theorem tX12_held_6 {d : Nat} {l0 l1 l3 l4 l5 : Option Value} {x : Int64} {m : jmM} {Q : Option Value → jmM → Prop} : AW d 190 6 [l0, l1, some (.long x), l3, l4, l5] [] m Q ↔ AW d 190 7 [l0, l1, some (.long x), l3, l4, l5] [.long x] m Q := A_lload_n hB_X12_held dX12_held_6 rfl
theorem dX12_held_7 : decode cX12_held 7 = .ok (.goto 16, 3) := by decide +kernel
theorem tX12_held_7 {d : Nat} {l0 l1 l2 l3 l4 l5 : Option Value} {v0 : Value} {m : jmM} {Q : Option Value → jmM → Prop} : AW d 190 7 [l0, l1, l2, l3, l4, l5] [v0] m Q ↔ AW d 190 23 [l0, l1, l2, l3, l4, l5] [v0] m Q := A_goto hB_X12_held dX12_held_7 (by decide)
theorem dX12_held_10 : decode cX12_held 10 = .ok (.lload_n 0, 1) := by decide +kernel
theorem tX12_held_10 {d : Nat} {l1 l2 l3 l4 l5 : Option Value} {x : Int64} {m : jmM} {Q : Option Value → jmM → Prop} : AW d 190 10 [some (.long x), l1, l2, l3, l4, l5] [] m Q ↔ AW d 190 11 [some (.long x), l1, l2, l3, l4, l5] [.long x] m Q := A_lload_n hB_X12_held dX12_held_10 rfl
theorem dX12_held_11 : decode cX12_held 11 = .ok (.lload 4, 2) := by decide +kernel
theorem tX12_held_11 {d : Nat} {l0 l1 l2 l3 l5 : Option Value} {v0 : Value} {x : Int64} {m : jmM} {Q : Option Value → jmM → Prop} : AW d 190 11 [l0, l1, l2, l3, some (.long x), l5] [v0] m Q ↔ AW d 190 13 [l0, l1, l2, l3, some (.long x), l5] [.long x, v0] m Q := A_lload hB_X12_held dX12_held_11 rfl
theorem dX12_held_13 : decode cX12_held 13 = .ok (.lcmp, 1) := by decide +kernel
theorem tX12_held_13 {d : Nat} {l0 l1 l2 l3 l4 l5 : Option Value} {x y : Int64} {m : jmM} {Q : Option Value → jmM → Prop} : AW d 190 13 [l0, l1, l2, l3, l4, l5] [.long y, .long x] m Q ↔ AW d 190 14 [l0, l1, l2, l3, l4, l5] [.int (lg_cmp x y)] m Q := A_lcmp hB_X12_held dX12_held_13
theorem dX12_held_14 : decode cX12_held 14 = .ok (.ifCond .le 8, 3) := by decide +kernel
theorem tX12_held_14 {d : Nat} {l0 l1 l2 l3 l4 l5 : Option Value} {x : Int32} {m : jmM} {Q : Option Value → jmM → Prop} : AW d 190 14 [l0, l1, l2, l3, l4, l5] [.int x] m Q ↔ if x ≤ 0 then AW d 190 22 [l0, l1, l2, l3, l4, l5] [] m Q else AW d 190 17 [l0, l1, l2, l3, l4, l5] [] m Q := A_if_le hB_X12_held dX12_held_14 (by decide)
theorem dX12_held_17 : decode cX12_held 17 = .ok (.lload 4, 2) := by decide +kernel
theorem tX12_held_17 {d : Nat} {l0 l1 l2 l3 l5 : Option Value} {x : Int64} {m : jmM} {Q : Option Value → jmM → Prop} : AW d 190 17 [l0, l1, l2, l3, some (.long x), l5] [] m Q ↔ AW d 190 19 [l0, l1, l2, l3, some (.long x), l5] [.long x] m Q := A_lload hB_X12_held dX12_held_17 rfl
theorem dX12_held_19 : decode cX12_held 19 = .ok (.goto 4, 3) := by decide +kernel
theorem tX12_held_19 {d : Nat} {l0 l1 l2 l3 l4 l5 : Option Value} {v0 : Value} {m : jmM} {Q : Option Value → jmM → Prop} : AW d 190 19 [l0, l1, l2, l3, l4, l5] [v0] m Q ↔ AW d 190 23 [l0, l1, l2, l3, l4, l5] [v0] m Q := A_goto hB_X12_held dX12_held_19 (by decide)
theorem dX12_held_22 : decode cX12_held 22 = .ok (.lload_n 0, 1) := by decide +kernel
theorem tX12_held_22 {d : Nat} {l1 l2 l3 l4 l5 : Option Value} {x : Int64} {m : jmM} {Q : Option Value → jmM → Prop} : AW d 190 22 [some (.long x), l1, l2, l3, l4, l5] [] m Q ↔ AW d 190 23 [some (.long x), l1, l2, l3, l4, l5] [.long x] m Q := A_lload_n hB_X12_held dX12_held_22 rfl
theorem dX12_held_23 : decode cX12_held 23 = .ok (.lreturn, 1) := by decide +kernel
theorem tX12_held_23 {d : Nat} {l0 l1 l2 l3 l4 l5 : Option Value} {x : Int64} {m : jmM} {Q : Option Value → jmM → Prop} : AW d 190 23 [l0, l1, l2, l3, l4, l5] [.long x] m Q ↔ Q (some (.long x)) m := A_lreturn hB_X12_held dX12_held_23 hR_X12_held
theorem hB_X12_four : jB 191 = cX12_four := rfl
theorem hO_X12_four : jO 191 = 12 := rfl
theorem hR_X12_four : jRt 191 = none := rfl
theorem nX12_four (d : Nat) (x0 : Nat) (x1 : Int32) (m : jmM) (Q : Option Value → jmM → Prop) : CC (d + 1) 191 [.ref x0, .int x1] m Q ↔ AW d 191 0 [some (.ref x0), some (.int x1), none] [] m Q := CC_body (Nat.le_of_ble_eq_true rfl)
theorem dX12_four_0 : decode cX12_four 0 = .ok (.bipush 24, 2) := by decide +kernel
theorem tX12_four_0 {d : Nat} {l0 l1 l2 : Option Value} {m : jmM} {Q : Option Value → jmM → Prop} : AW d 191 0 [l0, l1, l2] [] m Q ↔ AW d 191 2 [l0, l1, l2] [.int 24] m Q := A_bipush hB_X12_four dX12_four_0 rfl
theorem dX12_four_2 : decode cX12_four 2 = .ok (.istore_n 2, 1) := by decide +kernel
theorem tX12_four_2 {d : Nat} {l0 l1 l2 : Option Value} {x : Int32} {m : jmM} {Q : Option Value → jmM → Prop} : AW d 191 2 [l0, l1, l2] [.int x] m Q ↔ AW d 191 3 [l0, jc1 l1, some (.int x)] [] m Q := A_istore_n hB_X12_four dX12_four_2 (Nat.le_of_ble_eq_true rfl) rfl
theorem dX12_four_3 : decode cX12_four 3 = .ok (.iload_n 2, 1) := by decide +kernel
theorem tX12_four_3 {d : Nat} {l0 l1 : Option Value} {x : Int32} {m : jmM} {Q : Option Value → jmM → Prop} : AW d 191 3 [l0, l1, some (.int x)] [] m Q ↔ AW d 191 4 [l0, l1, some (.int x)] [.int x] m Q := A_iload_n hB_X12_four dX12_four_3 rfl
theorem dX12_four_4 : decode cX12_four 4 = .ok (.ifCond .lt 32, 3) := by decide +kernel
theorem tX12_four_4 {d : Nat} {l0 l1 l2 : Option Value} {x : Int32} {m : jmM} {Q : Option Value → jmM → Prop} : AW d 191 4 [l0, l1, l2] [.int x] m Q ↔ if x < 0 then AW d 191 36 [l0, l1, l2] [] m Q else AW d 191 7 [l0, l1, l2] [] m Q := A_if_lt hB_X12_four dX12_four_4 (by decide)
theorem dX12_four_7 : decode cX12_four 7 = .ok (.aload_n 0, 1) := by decide +kernel
theorem tX12_four_7 {d : Nat} {l1 l2 : Option Value} {x : Nat} {m : jmM} {Q : Option Value → jmM → Prop} : AW d 191 7 [some (.ref x), l1, l2] [] m Q ↔ AW d 191 8 [some (.ref x), l1, l2] [.ref x] m Q := A_aload_n hB_X12_four dX12_four_7 rfl
theorem dX12_four_8 : decode cX12_four 8 = .ok (.getfield 7, 3) := by decide +kernel
theorem tX12_four_8 {d : Nat} {l0 l1 l2 : Option Value} {a : Nat} {m : jmM} {Q : Option Value → jmM → Prop} : AW d 191 8 [l0, l1, l2] [.ref a] m Q ↔ (mS m a).1 = 12 ∧ AW d 191 11 [l0, l1, l2] [va_rf (mR m a 0)] m Q := A_getfield (f := fun m a => va_rf (mR m a 0)) hB_X12_four dX12_four_8 hO_X12_four fF_12_7 rfl
theorem dX12_four_11 : decode cX12_four 11 = .ok (.aload_n 0, 1) := by decide +kernel
theorem tX12_four_11 {d : Nat} {l1 l2 : Option Value} {v0 : Value} {x : Nat} {m : jmM} {Q : Option Value → jmM → Prop} : AW d 191 11 [some (.ref x), l1, l2] [v0] m Q ↔ AW d 191 12 [some (.ref x), l1, l2] [.ref x, v0] m Q := A_aload_n hB_X12_four dX12_four_11 rfl
theorem dX12_four_12 : decode cX12_four 12 = .ok (.getfield 101, 3) := by decide +kernel
theorem tX12_four_12 {d : Nat} {l0 l1 l2 : Option Value} {v1 : Value} {a : Nat} {m : jmM} {Q : Option Value → jmM → Prop} : AW d 191 12 [l0, l1, l2] [.ref a, v1] m Q ↔ (mS m a).1 = 12 ∧ AW d 191 15 [l0, l1, l2] [.int (mI m a 1), v1] m Q := A_getfield (f := fun m a => .int (mI m a 1)) hB_X12_four dX12_four_12 hO_X12_four fF_12_101 rfl
theorem dX12_four_15 : decode cX12_four 15 = .ok (.iload_n 1, 1) := by decide +kernel
theorem tX12_four_15 {d : Nat} {l0 l2 : Option Value} {v0 v1 : Value} {x : Int32} {m : jmM} {Q : Option Value → jmM → Prop} : AW d 191 15 [l0, some (.int x), l2] [v0, v1] m Q ↔ AW d 191 16 [l0, some (.int x), l2] [.int x, v0, v1] m Q := A_iload_n hB_X12_four dX12_four_15 rfl
theorem dX12_four_16 : decode cX12_four 16 = .ok (.iload_n 2, 1) := by decide +kernel
theorem tX12_four_16 {d : Nat} {l0 l1 : Option Value} {v0 v1 v2 : Value} {x : Int32} {m : jmM} {Q : Option Value → jmM → Prop} : AW d 191 16 [l0, l1, some (.int x)] [v0, v1, v2] m Q ↔ AW d 191 17 [l0, l1, some (.int x)] [.int x, v0, v1, v2] m Q := A_iload_n hB_X12_four dX12_four_16 rfl
theorem dX12_four_17 : decode cX12_four 17 = .ok (.ishr, 1) := by decide +kernel
theorem tX12_four_17 {d : Nat} {l0 l1 l2 : Option Value} {v2 v3 : Value} {x y : Int32} {m : jmM} {Q : Option Value → jmM → Prop} : AW d 191 17 [l0, l1, l2] [.int y, .int x, v2, v3] m Q ↔ AW d 191 18 [l0, l1, l2] [.int (x >>> (y &&& 31)), v2, v3] m Q := A_ishr hB_X12_four dX12_four_17
theorem dX12_four_18 : decode cX12_four 18 = .ok (.i2b, 1) := by decide +kernel
theorem tX12_four_18 {d : Nat} {l0 l1 l2 : Option Value} {v1 v2 : Value} {x : Int32} {m : jmM} {Q : Option Value → jmM → Prop} : AW d 191 18 [l0, l1, l2] [.int x, v1, v2] m Q ↔ AW d 191 19 [l0, l1, l2] [.int x.toInt8.toInt32, v1, v2] m Q := A_i2b hB_X12_four dX12_four_18
theorem dX12_four_19 : decode cX12_four 19 = .ok (.bastore, 1) := by decide +kernel
theorem tX12_four_19 {d : Nat} {l0 l1 l2 : Option Value} {x i : Int32} {a : Nat} {m : jmM} {Q : Option Value → jmM → Prop} : AW d 191 19 [l0, l1, l2] [.int x, .int i, .ref a] m Q ↔ (((mS m a).1 = 22 ∨ (mS m a).1 = 23) ∧ jIx i (mS m a).2) ∧ AW d 191 20 [l0, l1, l2] [] (cI m a (jup (mI m a) (jx i) (if (mS m a).1 = 22 then vp_nar .byte x else vp_nar .boolean x))) Q := A_bastore hB_X12_four dX12_four_19
theorem dX12_four_20 : decode cX12_four 20 = .ok (.aload_n 0, 1) := by decide +kernel
theorem tX12_four_20 {d : Nat} {l1 l2 : Option Value} {x : Nat} {m : jmM} {Q : Option Value → jmM → Prop} : AW d 191 20 [some (.ref x), l1, l2] [] m Q ↔ AW d 191 21 [some (.ref x), l1, l2] [.ref x] m Q := A_aload_n hB_X12_four dX12_four_20 rfl
theorem dX12_four_21 : decode cX12_four 21 = .ok (.dup, 1) := by decide +kernel
theorem tX12_four_21 {d : Nat} {l0 l1 l2 : Option Value} {x : Nat} {m : jmM} {Q : Option Value → jmM → Prop} : AW d 191 21 [l0, l1, l2] [.ref x] m Q ↔ AW d 191 22 [l0, l1, l2] [.ref x, .ref x] m Q := A_dup_a hB_X12_four dX12_four_21
theorem dX12_four_22 : decode cX12_four 22 = .ok (.getfield 101, 3) := by decide +kernel
theorem tX12_four_22 {d : Nat} {l0 l1 l2 : Option Value} {v1 : Value} {a : Nat} {m : jmM} {Q : Option Value → jmM → Prop} : AW d 191 22 [l0, l1, l2] [.ref a, v1] m Q ↔ (mS m a).1 = 12 ∧ AW d 191 25 [l0, l1, l2] [.int (mI m a 1), v1] m Q := A_getfield (f := fun m a => .int (mI m a 1)) hB_X12_four dX12_four_22 hO_X12_four fF_12_101 rfl
theorem dX12_four_25 : decode cX12_four 25 = .ok (.iconst 1, 1) := by decide +kernel
theorem tX12_four_25 {d : Nat} {l0 l1 l2 : Option Value} {v0 v1 : Value} {m : jmM} {Q : Option Value → jmM → Prop} : AW d 191 25 [l0, l1, l2] [v0, v1] m Q ↔ AW d 191 26 [l0, l1, l2] [.int 1, v0, v1] m Q := A_iconst hB_X12_four dX12_four_25 (by decide)
theorem dX12_four_26 : decode cX12_four 26 = .ok (.iadd, 1) := by decide +kernel
theorem tX12_four_26 {d : Nat} {l0 l1 l2 : Option Value} {v2 : Value} {x y : Int32} {m : jmM} {Q : Option Value → jmM → Prop} : AW d 191 26 [l0, l1, l2] [.int y, .int x, v2] m Q ↔ AW d 191 27 [l0, l1, l2] [.int (x + y), v2] m Q := A_iadd hB_X12_four dX12_four_26
theorem dX12_four_27 : decode cX12_four 27 = .ok (.putfield 101, 3) := by decide +kernel
theorem tX12_four_27 {d : Nat} {l0 l1 l2 : Option Value} {x : Int32} {a : Nat} {m : jmM} {Q : Option Value → jmM → Prop} : AW d 191 27 [l0, l1, l2] [.int x, .ref a] m Q ↔ (mS m a).1 = 12 ∧ AW d 191 30 [l0, l1, l2] [] (cI m a (jup (mI m a) 1 x)) Q := A_putI hB_X12_four dX12_four_27 hO_X12_four fF_12_101 rfl (fun h => Bool.noConfusion h)
theorem dX12_four_30 : decode cX12_four 30 = .ok (.iinc 2 (-8), 3) := by decide +kernel
theorem tX12_four_30 {d : Nat} {l0 l1 : Option Value} {x : Int32} {m : jmM} {Q : Option Value → jmM → Prop} : AW d 191 30 [l0, l1, some (.int x)] [] m Q ↔ AW d 191 33 [l0, jc1 l1, some (.int (x + (-8)))] [] m Q := A_iinc hB_X12_four dX12_four_30 rfl (Nat.le_of_ble_eq_true rfl) (v := (-8)) (by decide) rfl
theorem dX12_four_33 : decode cX12_four 33 = .ok (.goto (-30), 3) := by decide +kernel
theorem tX12_four_33 {d : Nat} {l0 l1 l2 : Option Value} {m : jmM} {Q : Option Value → jmM → Prop} : AW d 191 33 [l0, l1, l2] [] m Q ↔ AW d 191 3 [l0, l1, l2] [] m Q := A_goto hB_X12_four dX12_four_33 (by decide)
theorem dX12_four_36 : decode cX12_four 36 = .ok (.return_, 1) := by decide +kernel
theorem tX12_four_36 {d : Nat} {l0 l1 l2 : Option Value} {m : jmM} {Q : Option Value → jmM → Prop} : AW d 191 36 [l0, l1, l2] [] m Q ↔ Q none m := A_return hB_X12_four dX12_four_36 hR_X12_four
theorem hB_X12_feed : jB 192 = cX12_feed := rfl
theorem hO_X12_feed : jO 192 = 12 := rfl
theorem hR_X12_feed : jRt 192 = (some .int) := rfl
theorem nX12_feed (d : Nat) (x0 : Nat) (x1 : Int32) (x2 : Int32) (x3 : Int32) (x4 : Int32) (x5 : Int32) (m : jmM) (Q : Option Value → jmM → Prop) : CC (d + 1) 192 [.ref x0, .int x1, .int x2, .int x3, .int x4, .int x5] m Q ↔ AW d 192 0 [some (.ref x0), some (.int x1), some (.int x2), some (.int x3), some (.int x4), some (.int x5)] [] m Q := CC_body (Nat.le_of_ble_eq_true rfl)
theorem dX12_feed_0 : decode cX12_feed 0 = .ok (.aload_n 0, 1) := by decide +kernel
theorem tX12_feed_0 {d : Nat} {l1 l2 l3 l4 l5 : Option Value} {x : Nat} {m : jmM} {Q : Option Value → jmM → Prop} : AW d 192 0 [some (.ref x), l1, l2, l3, l4, l5] [] m Q ↔ AW d 192 1 [some (.ref x), l1, l2, l3, l4, l5] [.ref x] m Q := A_aload_n hB_X12_feed dX12_feed_0 rfl
theorem dX12_feed_1 : decode cX12_feed 1 = .ok (.getfield 101, 3) := by decide +kernel
theorem tX12_feed_1 {d : Nat} {l0 l1 l2 l3 l4 l5 : Option Value} {a : Nat} {m : jmM} {Q : Option Value → jmM → Prop} : AW d 192 1 [l0, l1, l2, l3, l4, l5] [.ref a] m Q ↔ (mS m a).1 = 12 ∧ AW d 192 4 [l0, l1, l2, l3, l4, l5] [.int (mI m a 1)] m Q := A_getfield (f := fun m a => .int (mI m a 1)) hB_X12_feed dX12_feed_1 hO_X12_feed fF_12_101 rfl
theorem dX12_feed_4 : decode cX12_feed 4 = .ok (.bipush 20, 2) := by decide +kernel
theorem tX12_feed_4 {d : Nat} {l0 l1 l2 l3 l4 l5 : Option Value} {v0 : Value} {m : jmM} {Q : Option Value → jmM → Prop} : AW d 192 4 [l0, l1, l2, l3, l4, l5] [v0] m Q ↔ AW d 192 6 [l0, l1, l2, l3, l4, l5] [.int 20, v0] m Q := A_bipush hB_X12_feed dX12_feed_4 rfl
theorem dX12_feed_6 : decode cX12_feed 6 = .ok (.iadd, 1) := by decide +kernel
theorem tX12_feed_6 {d : Nat} {l0 l1 l2 l3 l4 l5 : Option Value} {x y : Int32} {m : jmM} {Q : Option Value → jmM → Prop} : AW d 192 6 [l0, l1, l2, l3, l4, l5] [.int y, .int x] m Q ↔ AW d 192 7 [l0, l1, l2, l3, l4, l5] [.int (x + y)] m Q := A_iadd hB_X12_feed dX12_feed_6
theorem dX12_feed_7 : decode cX12_feed 7 = .ok (.sipush 400, 3) := by decide +kernel
theorem tX12_feed_7 {d : Nat} {l0 l1 l2 l3 l4 l5 : Option Value} {v0 : Value} {m : jmM} {Q : Option Value → jmM → Prop} : AW d 192 7 [l0, l1, l2, l3, l4, l5] [v0] m Q ↔ AW d 192 10 [l0, l1, l2, l3, l4, l5] [.int 400, v0] m Q := A_sipush hB_X12_feed dX12_feed_7 rfl
theorem dX12_feed_10 : decode cX12_feed 10 = .ok (.if_icmp .le 5, 3) := by decide +kernel
theorem tX12_feed_10 {d : Nat} {l0 l1 l2 l3 l4 l5 : Option Value} {x y : Int32} {m : jmM} {Q : Option Value → jmM → Prop} : AW d 192 10 [l0, l1, l2, l3, l4, l5] [.int y, .int x] m Q ↔ if x ≤ y then AW d 192 15 [l0, l1, l2, l3, l4, l5] [] m Q else AW d 192 13 [l0, l1, l2, l3, l4, l5] [] m Q := A_icmp_le hB_X12_feed dX12_feed_10 (by decide)
theorem dX12_feed_13 : decode cX12_feed 13 = .ok (.iconst (-1), 1) := by decide +kernel
theorem tX12_feed_13 {d : Nat} {l0 l1 l2 l3 l4 l5 : Option Value} {m : jmM} {Q : Option Value → jmM → Prop} : AW d 192 13 [l0, l1, l2, l3, l4, l5] [] m Q ↔ AW d 192 14 [l0, l1, l2, l3, l4, l5] [.int (-1)] m Q := A_iconst hB_X12_feed dX12_feed_13 (by decide)
theorem dX12_feed_14 : decode cX12_feed 14 = .ok (.ireturn, 1) := by decide +kernel
theorem tX12_feed_14 {d : Nat} {l0 l1 l2 l3 l4 l5 : Option Value} {x : Int32} {m : jmM} {Q : Option Value → jmM → Prop} : AW d 192 14 [l0, l1, l2, l3, l4, l5] [.int x] m Q ↔ Q (some (.int x)) m := A_ireturn hB_X12_feed dX12_feed_14 hR_X12_feed
theorem dX12_feed_15 : decode cX12_feed 15 = .ok (.aload_n 0, 1) := by decide +kernel
theorem tX12_feed_15 {d : Nat} {l1 l2 l3 l4 l5 : Option Value} {x : Nat} {m : jmM} {Q : Option Value → jmM → Prop} : AW d 192 15 [some (.ref x), l1, l2, l3, l4, l5] [] m Q ↔ AW d 192 16 [some (.ref x), l1, l2, l3, l4, l5] [.ref x] m Q := A_aload_n hB_X12_feed dX12_feed_15 rfl
theorem dX12_feed_16 : decode cX12_feed 16 = .ok (.iload_n 1, 1) := by decide +kernel
theorem tX12_feed_16 {d : Nat} {l0 l2 l3 l4 l5 : Option Value} {v0 : Value} {x : Int32} {m : jmM} {Q : Option Value → jmM → Prop} : AW d 192 16 [l0, some (.int x), l2, l3, l4, l5] [v0] m Q ↔ AW d 192 17 [l0, some (.int x), l2, l3, l4, l5] [.int x, v0] m Q := A_iload_n hB_X12_feed dX12_feed_16 rfl
theorem dX12_feed_17 : decode cX12_feed 17 = .ok (.invokevirtual 104, 3) := by decide +kernel
theorem tX12_feed_17 {d : Nat} {l0 l1 l2 l3 l4 l5 : Option Value} {y0 : Value} {a : Nat} {m : jmM} {Q : Option Value → jmM → Prop} : AW d 192 17 [l0, l1, l2, l3, l4, l5] [y0, .ref a] m Q ↔ (mS m a).1 = 12 ∧ CC d 191 [.ref a, y0] m (jK d 192 20 [l0, l1, l2, l3, l4, l5] [] Q) := A_callV hB_X12_feed dX12_feed_17 hO_X12_feed fS_12_104 ⟨Nat.le_of_ble_eq_true rfl, Nat.le_of_ble_eq_true rfl⟩ rfl rfl rfl
theorem dX12_feed_20 : decode cX12_feed 20 = .ok (.aload_n 0, 1) := by decide +kernel
theorem tX12_feed_20 {d : Nat} {l1 l2 l3 l4 l5 : Option Value} {x : Nat} {m : jmM} {Q : Option Value → jmM → Prop} : AW d 192 20 [some (.ref x), l1, l2, l3, l4, l5] [] m Q ↔ AW d 192 21 [some (.ref x), l1, l2, l3, l4, l5] [.ref x] m Q := A_aload_n hB_X12_feed dX12_feed_20 rfl
theorem dX12_feed_21 : decode cX12_feed 21 = .ok (.iload_n 2, 1) := by decide +kernel
theorem tX12_feed_21 {d : Nat} {l0 l1 l3 l4 l5 : Option Value} {v0 : Value} {x : Int32} {m : jmM} {Q : Option Value → jmM → Prop} : AW d 192 21 [l0, l1, some (.int x), l3, l4, l5] [v0] m Q ↔ AW d 192 22 [l0, l1, some (.int x), l3, l4, l5] [.int x, v0] m Q := A_iload_n hB_X12_feed dX12_feed_21 rfl
theorem dX12_feed_22 : decode cX12_feed 22 = .ok (.invokevirtual 104, 3) := by decide +kernel
theorem tX12_feed_22 {d : Nat} {l0 l1 l2 l3 l4 l5 : Option Value} {y0 : Value} {a : Nat} {m : jmM} {Q : Option Value → jmM → Prop} : AW d 192 22 [l0, l1, l2, l3, l4, l5] [y0, .ref a] m Q ↔ (mS m a).1 = 12 ∧ CC d 191 [.ref a, y0] m (jK d 192 25 [l0, l1, l2, l3, l4, l5] [] Q) := A_callV hB_X12_feed dX12_feed_22 hO_X12_feed fS_12_104 ⟨Nat.le_of_ble_eq_true rfl, Nat.le_of_ble_eq_true rfl⟩ rfl rfl rfl
theorem dX12_feed_25 : decode cX12_feed 25 = .ok (.aload_n 0, 1) := by decide +kernel
theorem tX12_feed_25 {d : Nat} {l1 l2 l3 l4 l5 : Option Value} {x : Nat} {m : jmM} {Q : Option Value → jmM → Prop} : AW d 192 25 [some (.ref x), l1, l2, l3, l4, l5] [] m Q ↔ AW d 192 26 [some (.ref x), l1, l2, l3, l4, l5] [.ref x] m Q := A_aload_n hB_X12_feed dX12_feed_25 rfl
theorem dX12_feed_26 : decode cX12_feed 26 = .ok (.iload_n 3, 1) := by decide +kernel
theorem tX12_feed_26 {d : Nat} {l0 l1 l2 l4 l5 : Option Value} {v0 : Value} {x : Int32} {m : jmM} {Q : Option Value → jmM → Prop} : AW d 192 26 [l0, l1, l2, some (.int x), l4, l5] [v0] m Q ↔ AW d 192 27 [l0, l1, l2, some (.int x), l4, l5] [.int x, v0] m Q := A_iload_n hB_X12_feed dX12_feed_26 rfl
theorem dX12_feed_27 : decode cX12_feed 27 = .ok (.invokevirtual 104, 3) := by decide +kernel
theorem tX12_feed_27 {d : Nat} {l0 l1 l2 l3 l4 l5 : Option Value} {y0 : Value} {a : Nat} {m : jmM} {Q : Option Value → jmM → Prop} : AW d 192 27 [l0, l1, l2, l3, l4, l5] [y0, .ref a] m Q ↔ (mS m a).1 = 12 ∧ CC d 191 [.ref a, y0] m (jK d 192 30 [l0, l1, l2, l3, l4, l5] [] Q) := A_callV hB_X12_feed dX12_feed_27 hO_X12_feed fS_12_104 ⟨Nat.le_of_ble_eq_true rfl, Nat.le_of_ble_eq_true rfl⟩ rfl rfl rfl
theorem dX12_feed_30 : decode cX12_feed 30 = .ok (.aload_n 0, 1) := by decide +kernel
theorem tX12_feed_30 {d : Nat} {l1 l2 l3 l4 l5 : Option Value} {x : Nat} {m : jmM} {Q : Option Value → jmM → Prop} : AW d 192 30 [some (.ref x), l1, l2, l3, l4, l5] [] m Q ↔ AW d 192 31 [some (.ref x), l1, l2, l3, l4, l5] [.ref x] m Q := A_aload_n hB_X12_feed dX12_feed_30 rfl
theorem dX12_feed_31 : decode cX12_feed 31 = .ok (.iload 4, 2) := by decide +kernel
theorem tX12_feed_31 {d : Nat} {l0 l1 l2 l3 l5 : Option Value} {v0 : Value} {x : Int32} {m : jmM} {Q : Option Value → jmM → Prop} : AW d 192 31 [l0, l1, l2, l3, some (.int x), l5] [v0] m Q ↔ AW d 192 33 [l0, l1, l2, l3, some (.int x), l5] [.int x, v0] m Q := A_iload hB_X12_feed dX12_feed_31 rfl
theorem dX12_feed_33 : decode cX12_feed 33 = .ok (.invokevirtual 104, 3) := by decide +kernel
theorem tX12_feed_33 {d : Nat} {l0 l1 l2 l3 l4 l5 : Option Value} {y0 : Value} {a : Nat} {m : jmM} {Q : Option Value → jmM → Prop} : AW d 192 33 [l0, l1, l2, l3, l4, l5] [y0, .ref a] m Q ↔ (mS m a).1 = 12 ∧ CC d 191 [.ref a, y0] m (jK d 192 36 [l0, l1, l2, l3, l4, l5] [] Q) := A_callV hB_X12_feed dX12_feed_33 hO_X12_feed fS_12_104 ⟨Nat.le_of_ble_eq_true rfl, Nat.le_of_ble_eq_true rfl⟩ rfl rfl rfl
theorem dX12_feed_36 : decode cX12_feed 36 = .ok (.aload_n 0, 1) := by decide +kernel
theorem tX12_feed_36 {d : Nat} {l1 l2 l3 l4 l5 : Option Value} {x : Nat} {m : jmM} {Q : Option Value → jmM → Prop} : AW d 192 36 [some (.ref x), l1, l2, l3, l4, l5] [] m Q ↔ AW d 192 37 [some (.ref x), l1, l2, l3, l4, l5] [.ref x] m Q := A_aload_n hB_X12_feed dX12_feed_36 rfl
theorem dX12_feed_37 : decode cX12_feed 37 = .ok (.iload 5, 2) := by decide +kernel
theorem tX12_feed_37 {d : Nat} {l0 l1 l2 l3 l4 : Option Value} {v0 : Value} {x : Int32} {m : jmM} {Q : Option Value → jmM → Prop} : AW d 192 37 [l0, l1, l2, l3, l4, some (.int x)] [v0] m Q ↔ AW d 192 39 [l0, l1, l2, l3, l4, some (.int x)] [.int x, v0] m Q := A_iload hB_X12_feed dX12_feed_37 rfl
theorem dX12_feed_39 : decode cX12_feed 39 = .ok (.invokevirtual 104, 3) := by decide +kernel
theorem tX12_feed_39 {d : Nat} {l0 l1 l2 l3 l4 l5 : Option Value} {y0 : Value} {a : Nat} {m : jmM} {Q : Option Value → jmM → Prop} : AW d 192 39 [l0, l1, l2, l3, l4, l5] [y0, .ref a] m Q ↔ (mS m a).1 = 12 ∧ CC d 191 [.ref a, y0] m (jK d 192 42 [l0, l1, l2, l3, l4, l5] [] Q) := A_callV hB_X12_feed dX12_feed_39 hO_X12_feed fS_12_104 ⟨Nat.le_of_ble_eq_true rfl, Nat.le_of_ble_eq_true rfl⟩ rfl rfl rfl
theorem dX12_feed_42 : decode cX12_feed 42 = .ok (.aload_n 0, 1) := by decide +kernel
theorem tX12_feed_42 {d : Nat} {l1 l2 l3 l4 l5 : Option Value} {x : Nat} {m : jmM} {Q : Option Value → jmM → Prop} : AW d 192 42 [some (.ref x), l1, l2, l3, l4, l5] [] m Q ↔ AW d 192 43 [some (.ref x), l1, l2, l3, l4, l5] [.ref x] m Q := A_aload_n hB_X12_feed dX12_feed_42 rfl
theorem dX12_feed_43 : decode cX12_feed 43 = .ok (.getfield 101, 3) := by decide +kernel
theorem tX12_feed_43 {d : Nat} {l0 l1 l2 l3 l4 l5 : Option Value} {a : Nat} {m : jmM} {Q : Option Value → jmM → Prop} : AW d 192 43 [l0, l1, l2, l3, l4, l5] [.ref a] m Q ↔ (mS m a).1 = 12 ∧ AW d 192 46 [l0, l1, l2, l3, l4, l5] [.int (mI m a 1)] m Q := A_getfield (f := fun m a => .int (mI m a 1)) hB_X12_feed dX12_feed_43 hO_X12_feed fF_12_101 rfl
theorem dX12_feed_46 : decode cX12_feed 46 = .ok (.ireturn, 1) := by decide +kernel
theorem tX12_feed_46 {d : Nat} {l0 l1 l2 l3 l4 l5 : Option Value} {x : Int32} {m : jmM} {Q : Option Value → jmM → Prop} : AW d 192 46 [l0, l1, l2, l3, l4, l5] [.int x] m Q ↔ Q (some (.int x)) m := A_ireturn hB_X12_feed dX12_feed_46 hR_X12_feed
theorem hB_X12_end : jB 193 = cX12_end := rfl
theorem hO_X12_end : jO 193 = 12 := rfl
theorem hR_X12_end : jRt 193 = (some .int) := rfl
theorem nX12_end (d : Nat) (x0 : Nat) (x1 : Int32) (m : jmM) (Q : Option Value → jmM → Prop) : CC (d + 1) 193 [.ref x0, .int x1] m Q ↔ AW d 193 0 [some (.ref x0), some (.int x1)] [] m Q := CC_body (Nat.le_of_ble_eq_true rfl)
theorem dX12_end_0 : decode cX12_end 0 = .ok (.iload_n 1, 1) := by decide +kernel
theorem tX12_end_0 {d : Nat} {l0 : Option Value} {x : Int32} {m : jmM} {Q : Option Value → jmM → Prop} : AW d 193 0 [l0, some (.int x)] [] m Q ↔ AW d 193 1 [l0, some (.int x)] [.int x] m Q := A_iload_n hB_X12_end dX12_end_0 rfl
theorem dX12_end_1 : decode cX12_end 1 = .ok (.ifCond .lt 11, 3) := by decide +kernel
theorem tX12_end_1 {d : Nat} {l0 l1 : Option Value} {x : Int32} {m : jmM} {Q : Option Value → jmM → Prop} : AW d 193 1 [l0, l1] [.int x] m Q ↔ if x < 0 then AW d 193 12 [l0, l1] [] m Q else AW d 193 4 [l0, l1] [] m Q := A_if_lt hB_X12_end dX12_end_1 (by decide)
theorem dX12_end_4 : decode cX12_end 4 = .ok (.iload_n 1, 1) := by decide +kernel
theorem tX12_end_4 {d : Nat} {l0 : Option Value} {x : Int32} {m : jmM} {Q : Option Value → jmM → Prop} : AW d 193 4 [l0, some (.int x)] [] m Q ↔ AW d 193 5 [l0, some (.int x)] [.int x] m Q := A_iload_n hB_X12_end dX12_end_4 rfl
theorem dX12_end_5 : decode cX12_end 5 = .ok (.aload_n 0, 1) := by decide +kernel
theorem tX12_end_5 {d : Nat} {l1 : Option Value} {v0 : Value} {x : Nat} {m : jmM} {Q : Option Value → jmM → Prop} : AW d 193 5 [some (.ref x), l1] [v0] m Q ↔ AW d 193 6 [some (.ref x), l1] [.ref x, v0] m Q := A_aload_n hB_X12_end dX12_end_5 rfl
theorem dX12_end_6 : decode cX12_end 6 = .ok (.getfield 101, 3) := by decide +kernel
theorem tX12_end_6 {d : Nat} {l0 l1 : Option Value} {v1 : Value} {a : Nat} {m : jmM} {Q : Option Value → jmM → Prop} : AW d 193 6 [l0, l1] [.ref a, v1] m Q ↔ (mS m a).1 = 12 ∧ AW d 193 9 [l0, l1] [.int (mI m a 1), v1] m Q := A_getfield (f := fun m a => .int (mI m a 1)) hB_X12_end dX12_end_6 hO_X12_end fF_12_101 rfl
theorem dX12_end_9 : decode cX12_end 9 = .ok (.if_icmp .le 5, 3) := by decide +kernel
theorem tX12_end_9 {d : Nat} {l0 l1 : Option Value} {x y : Int32} {m : jmM} {Q : Option Value → jmM → Prop} : AW d 193 9 [l0, l1] [.int y, .int x] m Q ↔ if x ≤ y then AW d 193 14 [l0, l1] [] m Q else AW d 193 12 [l0, l1] [] m Q := A_icmp_le hB_X12_end dX12_end_9 (by decide)
theorem dX12_end_12 : decode cX12_end 12 = .ok (.iconst (-1), 1) := by decide +kernel
theorem tX12_end_12 {d : Nat} {l0 l1 : Option Value} {m : jmM} {Q : Option Value → jmM → Prop} : AW d 193 12 [l0, l1] [] m Q ↔ AW d 193 13 [l0, l1] [.int (-1)] m Q := A_iconst hB_X12_end dX12_end_12 (by decide)
theorem dX12_end_13 : decode cX12_end 13 = .ok (.ireturn, 1) := by decide +kernel
theorem tX12_end_13 {d : Nat} {l0 l1 : Option Value} {x : Int32} {m : jmM} {Q : Option Value → jmM → Prop} : AW d 193 13 [l0, l1] [.int x] m Q ↔ Q (some (.int x)) m := A_ireturn hB_X12_end dX12_end_13 hR_X12_end
theorem dX12_end_14 : decode cX12_end 14 = .ok (.aload_n 0, 1) := by decide +kernel
theorem tX12_end_14 {d : Nat} {l1 : Option Value} {x : Nat} {m : jmM} {Q : Option Value → jmM → Prop} : AW d 193 14 [some (.ref x), l1] [] m Q ↔ AW d 193 15 [some (.ref x), l1] [.ref x] m Q := A_aload_n hB_X12_end dX12_end_14 rfl
theorem dX12_end_15 : decode cX12_end 15 = .ok (.iload_n 1, 1) := by decide +kernel
theorem tX12_end_15 {d : Nat} {l0 : Option Value} {v0 : Value} {x : Int32} {m : jmM} {Q : Option Value → jmM → Prop} : AW d 193 15 [l0, some (.int x)] [v0] m Q ↔ AW d 193 16 [l0, some (.int x)] [.int x, v0] m Q := A_iload_n hB_X12_end dX12_end_15 rfl
theorem dX12_end_16 : decode cX12_end 16 = .ok (.putfield 101, 3) := by decide +kernel
theorem tX12_end_16 {d : Nat} {l0 l1 : Option Value} {x : Int32} {a : Nat} {m : jmM} {Q : Option Value → jmM → Prop} : AW d 193 16 [l0, l1] [.int x, .ref a] m Q ↔ (mS m a).1 = 12 ∧ AW d 193 19 [l0, l1] [] (cI m a (jup (mI m a) 1 x)) Q := A_putI hB_X12_end dX12_end_16 hO_X12_end fF_12_101 rfl (fun h => Bool.noConfusion h)
theorem dX12_end_19 : decode cX12_end 19 = .ok (.iload_n 1, 1) := by decide +kernel
theorem tX12_end_19 {d : Nat} {l0 : Option Value} {x : Int32} {m : jmM} {Q : Option Value → jmM → Prop} : AW d 193 19 [l0, some (.int x)] [] m Q ↔ AW d 193 20 [l0, some (.int x)] [.int x] m Q := A_iload_n hB_X12_end dX12_end_19 rfl
theorem dX12_end_20 : decode cX12_end 20 = .ok (.ireturn, 1) := by decide +kernel
theorem tX12_end_20 {d : Nat} {l0 l1 : Option Value} {x : Int32} {m : jmM} {Q : Option Value → jmM → Prop} : AW d 193 20 [l0, l1] [.int x] m Q ↔ Q (some (.int x)) m := A_ireturn hB_X12_end dX12_end_20 hR_X12_end
theorem hB_X12_fails : jB 194 = cX12_fails := rfl
theorem hO_X12_fails : jO 194 = 12 := rfl
theorem hR_X12_fails : jRt 194 = (some .boolean) := rfl
theorem nX12_fails (d : Nat) (x0 : Nat) (x1 : Int32) (x2 : Int32) (m : jmM) (Q : Option Value → jmM → Prop) : CC (d + 1) 194 [.ref x0, .int x1, .int x2] m Q ↔ AW d 194 0 [some (.ref x0), some (.int x1), some (.int x2)] [] m Q := CC_body (Nat.le_of_ble_eq_true rfl)
theorem dX12_fails_0 : decode cX12_fails 0 = .ok (.aload_n 0, 1) := by decide +kernel
theorem tX12_fails_0 {d : Nat} {l1 l2 : Option Value} {x : Nat} {m : jmM} {Q : Option Value → jmM → Prop} : AW d 194 0 [some (.ref x), l1, l2] [] m Q ↔ AW d 194 1 [some (.ref x), l1, l2] [.ref x] m Q := A_aload_n hB_X12_fails dX12_fails_0 rfl
theorem dX12_fails_1 : decode cX12_fails 1 = .ok (.getfield 108, 3) := by decide +kernel
theorem tX12_fails_1 {d : Nat} {l0 l1 l2 : Option Value} {a : Nat} {m : jmM} {Q : Option Value → jmM → Prop} : AW d 194 1 [l0, l1, l2] [.ref a] m Q ↔ (mS m a).1 = 12 ∧ AW d 194 4 [l0, l1, l2] [.int (mI m a 12)] m Q := A_getfield (f := fun m a => .int (mI m a 12)) hB_X12_fails dX12_fails_1 hO_X12_fails fF_12_108 rfl
theorem dX12_fails_4 : decode cX12_fails 4 = .ok (.ifCond .ne 15, 3) := by decide +kernel
theorem tX12_fails_4 {d : Nat} {l0 l1 l2 : Option Value} {x : Int32} {m : jmM} {Q : Option Value → jmM → Prop} : AW d 194 4 [l0, l1, l2] [.int x] m Q ↔ if x = 0 then AW d 194 7 [l0, l1, l2] [] m Q else AW d 194 19 [l0, l1, l2] [] m Q := A_if_ne hB_X12_fails dX12_fails_4 (by decide)
theorem dX12_fails_7 : decode cX12_fails 7 = .ok (.aload_n 0, 1) := by decide +kernel
theorem tX12_fails_7 {d : Nat} {l1 l2 : Option Value} {x : Nat} {m : jmM} {Q : Option Value → jmM → Prop} : AW d 194 7 [some (.ref x), l1, l2] [] m Q ↔ AW d 194 8 [some (.ref x), l1, l2] [.ref x] m Q := A_aload_n hB_X12_fails dX12_fails_7 rfl
theorem dX12_fails_8 : decode cX12_fails 8 = .ok (.iconst 1, 1) := by decide +kernel
theorem tX12_fails_8 {d : Nat} {l0 l1 l2 : Option Value} {v0 : Value} {m : jmM} {Q : Option Value → jmM → Prop} : AW d 194 8 [l0, l1, l2] [v0] m Q ↔ AW d 194 9 [l0, l1, l2] [.int 1, v0] m Q := A_iconst hB_X12_fails dX12_fails_8 (by decide)
theorem dX12_fails_9 : decode cX12_fails 9 = .ok (.bipush 8, 2) := by decide +kernel
theorem tX12_fails_9 {d : Nat} {l0 l1 l2 : Option Value} {v0 v1 : Value} {m : jmM} {Q : Option Value → jmM → Prop} : AW d 194 9 [l0, l1, l2] [v0, v1] m Q ↔ AW d 194 11 [l0, l1, l2] [.int 8, v0, v1] m Q := A_bipush hB_X12_fails dX12_fails_9 rfl
theorem dX12_fails_11 : decode cX12_fails 11 = .ok (.iload_n 2, 1) := by decide +kernel
theorem tX12_fails_11 {d : Nat} {l0 l1 : Option Value} {v0 v1 v2 : Value} {x : Int32} {m : jmM} {Q : Option Value → jmM → Prop} : AW d 194 11 [l0, l1, some (.int x)] [v0, v1, v2] m Q ↔ AW d 194 12 [l0, l1, some (.int x)] [.int x, v0, v1, v2] m Q := A_iload_n hB_X12_fails dX12_fails_11 rfl
theorem dX12_fails_12 : decode cX12_fails 12 = .ok (.imul, 1) := by decide +kernel
theorem tX12_fails_12 {d : Nat} {l0 l1 l2 : Option Value} {v2 v3 : Value} {x y : Int32} {m : jmM} {Q : Option Value → jmM → Prop} : AW d 194 12 [l0, l1, l2] [.int y, .int x, v2, v3] m Q ↔ AW d 194 13 [l0, l1, l2] [.int (x * y), v2, v3] m Q := A_imul hB_X12_fails dX12_fails_12
theorem dX12_fails_13 : decode cX12_fails 13 = .ok (.iadd, 1) := by decide +kernel
theorem tX12_fails_13 {d : Nat} {l0 l1 l2 : Option Value} {v2 : Value} {x y : Int32} {m : jmM} {Q : Option Value → jmM → Prop} : AW d 194 13 [l0, l1, l2] [.int y, .int x, v2] m Q ↔ AW d 194 14 [l0, l1, l2] [.int (x + y), v2] m Q := A_iadd hB_X12_fails dX12_fails_13
theorem dX12_fails_14 : decode cX12_fails 14 = .ok (.iload_n 1, 1) := by decide +kernel
theorem tX12_fails_14 {d : Nat} {l0 l2 : Option Value} {v0 v1 : Value} {x : Int32} {m : jmM} {Q : Option Value → jmM → Prop} : AW d 194 14 [l0, some (.int x), l2] [v0, v1] m Q ↔ AW d 194 15 [l0, some (.int x), l2] [.int x, v0, v1] m Q := A_iload_n hB_X12_fails dX12_fails_14 rfl
theorem dX12_fails_15 : decode cX12_fails 15 = .ok (.iadd, 1) := by decide +kernel
theorem tX12_fails_15 {d : Nat} {l0 l1 l2 : Option Value} {v2 : Value} {x y : Int32} {m : jmM} {Q : Option Value → jmM → Prop} : AW d 194 15 [l0, l1, l2] [.int y, .int x, v2] m Q ↔ AW d 194 16 [l0, l1, l2] [.int (x + y), v2] m Q := A_iadd hB_X12_fails dX12_fails_15
theorem dX12_fails_16 : decode cX12_fails 16 = .ok (.putfield 108, 3) := by decide +kernel
theorem tX12_fails_16 {d : Nat} {l0 l1 l2 : Option Value} {x : Int32} {a : Nat} {m : jmM} {Q : Option Value → jmM → Prop} : AW d 194 16 [l0, l1, l2] [.int x, .ref a] m Q ↔ (mS m a).1 = 12 ∧ AW d 194 19 [l0, l1, l2] [] (cI m a (jup (mI m a) 12 x)) Q := A_putI hB_X12_fails dX12_fails_16 hO_X12_fails fF_12_108 rfl (fun h => Bool.noConfusion h)
theorem dX12_fails_19 : decode cX12_fails 19 = .ok (.iconst 0, 1) := by decide +kernel
theorem tX12_fails_19 {d : Nat} {l0 l1 l2 : Option Value} {m : jmM} {Q : Option Value → jmM → Prop} : AW d 194 19 [l0, l1, l2] [] m Q ↔ AW d 194 20 [l0, l1, l2] [.int 0] m Q := A_iconst hB_X12_fails dX12_fails_19 (by decide)
theorem dX12_fails_20 : decode cX12_fails 20 = .ok (.ireturn, 1) := by decide +kernel
theorem tX12_fails_20 {d : Nat} {l0 l1 l2 : Option Value} {x : Int32} {m : jmM} {Q : Option Value → jmM → Prop} : AW d 194 20 [l0, l1, l2] [.int x] m Q ↔ jBool x ∧ Q (some (.int x)) m := A_zreturn hB_X12_fails dX12_fails_20 hR_X12_fails
theorem hB_X12_see : jB 195 = cX12_see := rfl
theorem hO_X12_see : jO 195 = 12 := rfl
theorem hR_X12_see : jRt 195 = (some .int) := rfl
theorem nX12_see (d : Nat) (x0 : Nat) (m : jmM) (Q : Option Value → jmM → Prop) : CC (d + 1) 195 [.ref x0] m Q ↔ AW d 195 0 [some (.ref x0)] [] m Q := CC_body (Nat.le_of_ble_eq_true rfl)
theorem dX12_see_0 : decode cX12_see 0 = .ok (.aload_n 0, 1) := by decide +kernel
theorem tX12_see_0 {d : Nat} {x : Nat} {m : jmM} {Q : Option Value → jmM → Prop} : AW d 195 0 [some (.ref x)] [] m Q ↔ AW d 195 1 [some (.ref x)] [.ref x] m Q := A_aload_n hB_X12_see dX12_see_0 rfl
theorem dX12_see_1 : decode cX12_see 1 = .ok (.getfield 111, 3) := by decide +kernel
theorem tX12_see_1 {d : Nat} {l0 : Option Value} {a : Nat} {m : jmM} {Q : Option Value → jmM → Prop} : AW d 195 1 [l0] [.ref a] m Q ↔ (mS m a).1 = 12 ∧ AW d 195 4 [l0] [.int (mI m a 11)] m Q := A_getfield (f := fun m a => .int (mI m a 11)) hB_X12_see dX12_see_1 hO_X12_see fF_12_111 rfl
theorem dX12_see_4 : decode cX12_see 4 = .ok (.aload_n 0, 1) := by decide +kernel
theorem tX12_see_4 {d : Nat} {v0 : Value} {x : Nat} {m : jmM} {Q : Option Value → jmM → Prop} : AW d 195 4 [some (.ref x)] [v0] m Q ↔ AW d 195 5 [some (.ref x)] [.ref x, v0] m Q := A_aload_n hB_X12_see dX12_see_4 rfl
theorem dX12_see_5 : decode cX12_see 5 = .ok (.getfield 101, 3) := by decide +kernel
theorem tX12_see_5 {d : Nat} {l0 : Option Value} {v1 : Value} {a : Nat} {m : jmM} {Q : Option Value → jmM → Prop} : AW d 195 5 [l0] [.ref a, v1] m Q ↔ (mS m a).1 = 12 ∧ AW d 195 8 [l0] [.int (mI m a 1), v1] m Q := A_getfield (f := fun m a => .int (mI m a 1)) hB_X12_see dX12_see_5 hO_X12_see fF_12_101 rfl
theorem dX12_see_8 : decode cX12_see 8 = .ok (.if_icmp .ge 30, 3) := by decide +kernel
theorem tX12_see_8 {d : Nat} {l0 : Option Value} {x y : Int32} {m : jmM} {Q : Option Value → jmM → Prop} : AW d 195 8 [l0] [.int y, .int x] m Q ↔ if y ≤ x then AW d 195 38 [l0] [] m Q else AW d 195 11 [l0] [] m Q := A_icmp_ge hB_X12_see dX12_see_8 (by decide)
theorem dX12_see_11 : decode cX12_see 11 = .ok (.aload_n 0, 1) := by decide +kernel
theorem tX12_see_11 {d : Nat} {x : Nat} {m : jmM} {Q : Option Value → jmM → Prop} : AW d 195 11 [some (.ref x)] [] m Q ↔ AW d 195 12 [some (.ref x)] [.ref x] m Q := A_aload_n hB_X12_see dX12_see_11 rfl
theorem dX12_see_12 : decode cX12_see 12 = .ok (.getfield 7, 3) := by decide +kernel
theorem tX12_see_12 {d : Nat} {l0 : Option Value} {a : Nat} {m : jmM} {Q : Option Value → jmM → Prop} : AW d 195 12 [l0] [.ref a] m Q ↔ (mS m a).1 = 12 ∧ AW d 195 15 [l0] [va_rf (mR m a 0)] m Q := A_getfield (f := fun m a => va_rf (mR m a 0)) hB_X12_see dX12_see_12 hO_X12_see fF_12_7 rfl
theorem dX12_see_15 : decode cX12_see 15 = .ok (.aload_n 0, 1) := by decide +kernel
theorem tX12_see_15 {d : Nat} {v0 : Value} {x : Nat} {m : jmM} {Q : Option Value → jmM → Prop} : AW d 195 15 [some (.ref x)] [v0] m Q ↔ AW d 195 16 [some (.ref x)] [.ref x, v0] m Q := A_aload_n hB_X12_see dX12_see_15 rfl
theorem dX12_see_16 : decode cX12_see 16 = .ok (.getfield 111, 3) := by decide +kernel
theorem tX12_see_16 {d : Nat} {l0 : Option Value} {v1 : Value} {a : Nat} {m : jmM} {Q : Option Value → jmM → Prop} : AW d 195 16 [l0] [.ref a, v1] m Q ↔ (mS m a).1 = 12 ∧ AW d 195 19 [l0] [.int (mI m a 11), v1] m Q := A_getfield (f := fun m a => .int (mI m a 11)) hB_X12_see dX12_see_16 hO_X12_see fF_12_111 rfl
theorem dX12_see_19 : decode cX12_see 19 = .ok (.baload, 1) := by decide +kernel
theorem tX12_see_19 {d : Nat} {l0 : Option Value} {i : Int32} {a : Nat} {m : jmM} {Q : Option Value → jmM → Prop} : AW d 195 19 [l0] [.int i, .ref a] m Q ↔ (((mS m a).1 = 22 ∨ (mS m a).1 = 23) ∧ jIx i (mS m a).2) ∧ AW d 195 20 [l0] [.int (mI m a (jx i))] m Q := A_baload hB_X12_see dX12_see_19
theorem dX12_see_20 : decode cX12_see 20 = .ok (.bipush 32, 2) := by decide +kernel
theorem tX12_see_20 {d : Nat} {l0 : Option Value} {v0 : Value} {m : jmM} {Q : Option Value → jmM → Prop} : AW d 195 20 [l0] [v0] m Q ↔ AW d 195 22 [l0] [.int 32, v0] m Q := A_bipush hB_X12_see dX12_see_20 rfl
theorem dX12_see_22 : decode cX12_see 22 = .ok (.if_icmp .ne 16, 3) := by decide +kernel
theorem tX12_see_22 {d : Nat} {l0 : Option Value} {x y : Int32} {m : jmM} {Q : Option Value → jmM → Prop} : AW d 195 22 [l0] [.int y, .int x] m Q ↔ if x = y then AW d 195 25 [l0] [] m Q else AW d 195 38 [l0] [] m Q := A_icmp_ne hB_X12_see dX12_see_22 (by decide)
theorem dX12_see_25 : decode cX12_see 25 = .ok (.aload_n 0, 1) := by decide +kernel
theorem tX12_see_25 {d : Nat} {x : Nat} {m : jmM} {Q : Option Value → jmM → Prop} : AW d 195 25 [some (.ref x)] [] m Q ↔ AW d 195 26 [some (.ref x)] [.ref x] m Q := A_aload_n hB_X12_see dX12_see_25 rfl
theorem dX12_see_26 : decode cX12_see 26 = .ok (.dup, 1) := by decide +kernel
theorem tX12_see_26 {d : Nat} {l0 : Option Value} {x : Nat} {m : jmM} {Q : Option Value → jmM → Prop} : AW d 195 26 [l0] [.ref x] m Q ↔ AW d 195 27 [l0] [.ref x, .ref x] m Q := A_dup_a hB_X12_see dX12_see_26
theorem dX12_see_27 : decode cX12_see 27 = .ok (.getfield 111, 3) := by decide +kernel
theorem tX12_see_27 {d : Nat} {l0 : Option Value} {v1 : Value} {a : Nat} {m : jmM} {Q : Option Value → jmM → Prop} : AW d 195 27 [l0] [.ref a, v1] m Q ↔ (mS m a).1 = 12 ∧ AW d 195 30 [l0] [.int (mI m a 11), v1] m Q := A_getfield (f := fun m a => .int (mI m a 11)) hB_X12_see dX12_see_27 hO_X12_see fF_12_111 rfl
theorem dX12_see_30 : decode cX12_see 30 = .ok (.iconst 1, 1) := by decide +kernel
theorem tX12_see_30 {d : Nat} {l0 : Option Value} {v0 v1 : Value} {m : jmM} {Q : Option Value → jmM → Prop} : AW d 195 30 [l0] [v0, v1] m Q ↔ AW d 195 31 [l0] [.int 1, v0, v1] m Q := A_iconst hB_X12_see dX12_see_30 (by decide)
theorem dX12_see_31 : decode cX12_see 31 = .ok (.iadd, 1) := by decide +kernel
theorem tX12_see_31 {d : Nat} {l0 : Option Value} {v2 : Value} {x y : Int32} {m : jmM} {Q : Option Value → jmM → Prop} : AW d 195 31 [l0] [.int y, .int x, v2] m Q ↔ AW d 195 32 [l0] [.int (x + y), v2] m Q := A_iadd hB_X12_see dX12_see_31
theorem dX12_see_32 : decode cX12_see 32 = .ok (.putfield 111, 3) := by decide +kernel
theorem tX12_see_32 {d : Nat} {l0 : Option Value} {x : Int32} {a : Nat} {m : jmM} {Q : Option Value → jmM → Prop} : AW d 195 32 [l0] [.int x, .ref a] m Q ↔ (mS m a).1 = 12 ∧ AW d 195 35 [l0] [] (cI m a (jup (mI m a) 11 x)) Q := A_putI hB_X12_see dX12_see_32 hO_X12_see fF_12_111 rfl (fun h => Bool.noConfusion h)
theorem dX12_see_35 : decode cX12_see 35 = .ok (.goto (-35), 3) := by decide +kernel
theorem tX12_see_35 {d : Nat} {l0 : Option Value} {m : jmM} {Q : Option Value → jmM → Prop} : AW d 195 35 [l0] [] m Q ↔ AW d 195 0 [l0] [] m Q := A_goto hB_X12_see dX12_see_35 (by decide)
theorem dX12_see_38 : decode cX12_see 38 = .ok (.aload_n 0, 1) := by decide +kernel
theorem tX12_see_38 {d : Nat} {x : Nat} {m : jmM} {Q : Option Value → jmM → Prop} : AW d 195 38 [some (.ref x)] [] m Q ↔ AW d 195 39 [some (.ref x)] [.ref x] m Q := A_aload_n hB_X12_see dX12_see_38 rfl
theorem dX12_see_39 : decode cX12_see 39 = .ok (.getfield 111, 3) := by decide +kernel
theorem tX12_see_39 {d : Nat} {l0 : Option Value} {a : Nat} {m : jmM} {Q : Option Value → jmM → Prop} : AW d 195 39 [l0] [.ref a] m Q ↔ (mS m a).1 = 12 ∧ AW d 195 42 [l0] [.int (mI m a 11)] m Q := A_getfield (f := fun m a => .int (mI m a 11)) hB_X12_see dX12_see_39 hO_X12_see fF_12_111 rfl
theorem dX12_see_42 : decode cX12_see 42 = .ok (.aload_n 0, 1) := by decide +kernel
theorem tX12_see_42 {d : Nat} {v0 : Value} {x : Nat} {m : jmM} {Q : Option Value → jmM → Prop} : AW d 195 42 [some (.ref x)] [v0] m Q ↔ AW d 195 43 [some (.ref x)] [.ref x, v0] m Q := A_aload_n hB_X12_see dX12_see_42 rfl
theorem dX12_see_43 : decode cX12_see 43 = .ok (.getfield 101, 3) := by decide +kernel
theorem tX12_see_43 {d : Nat} {l0 : Option Value} {v1 : Value} {a : Nat} {m : jmM} {Q : Option Value → jmM → Prop} : AW d 195 43 [l0] [.ref a, v1] m Q ↔ (mS m a).1 = 12 ∧ AW d 195 46 [l0] [.int (mI m a 1), v1] m Q := A_getfield (f := fun m a => .int (mI m a 1)) hB_X12_see dX12_see_43 hO_X12_see fF_12_101 rfl
theorem dX12_see_46 : decode cX12_see 46 = .ok (.if_icmp .ge 19, 3) := by decide +kernel
theorem tX12_see_46 {d : Nat} {l0 : Option Value} {x y : Int32} {m : jmM} {Q : Option Value → jmM → Prop} : AW d 195 46 [l0] [.int y, .int x] m Q ↔ if y ≤ x then AW d 195 65 [l0] [] m Q else AW d 195 49 [l0] [] m Q := A_icmp_ge hB_X12_see dX12_see_46 (by decide)
theorem dX12_see_49 : decode cX12_see 49 = .ok (.aload_n 0, 1) := by decide +kernel
theorem tX12_see_49 {d : Nat} {x : Nat} {m : jmM} {Q : Option Value → jmM → Prop} : AW d 195 49 [some (.ref x)] [] m Q ↔ AW d 195 50 [some (.ref x)] [.ref x] m Q := A_aload_n hB_X12_see dX12_see_49 rfl
theorem dX12_see_50 : decode cX12_see 50 = .ok (.getfield 7, 3) := by decide +kernel
theorem tX12_see_50 {d : Nat} {l0 : Option Value} {a : Nat} {m : jmM} {Q : Option Value → jmM → Prop} : AW d 195 50 [l0] [.ref a] m Q ↔ (mS m a).1 = 12 ∧ AW d 195 53 [l0] [va_rf (mR m a 0)] m Q := A_getfield (f := fun m a => va_rf (mR m a 0)) hB_X12_see dX12_see_50 hO_X12_see fF_12_7 rfl
theorem dX12_see_53 : decode cX12_see 53 = .ok (.aload_n 0, 1) := by decide +kernel
theorem tX12_see_53 {d : Nat} {v0 : Value} {x : Nat} {m : jmM} {Q : Option Value → jmM → Prop} : AW d 195 53 [some (.ref x)] [v0] m Q ↔ AW d 195 54 [some (.ref x)] [.ref x, v0] m Q := A_aload_n hB_X12_see dX12_see_53 rfl
theorem dX12_see_54 : decode cX12_see 54 = .ok (.getfield 111, 3) := by decide +kernel
theorem tX12_see_54 {d : Nat} {l0 : Option Value} {v1 : Value} {a : Nat} {m : jmM} {Q : Option Value → jmM → Prop} : AW d 195 54 [l0] [.ref a, v1] m Q ↔ (mS m a).1 = 12 ∧ AW d 195 57 [l0] [.int (mI m a 11), v1] m Q := A_getfield (f := fun m a => .int (mI m a 11)) hB_X12_see dX12_see_54 hO_X12_see fF_12_111 rfl
theorem dX12_see_57 : decode cX12_see 57 = .ok (.baload, 1) := by decide +kernel
theorem tX12_see_57 {d : Nat} {l0 : Option Value} {i : Int32} {a : Nat} {m : jmM} {Q : Option Value → jmM → Prop} : AW d 195 57 [l0] [.int i, .ref a] m Q ↔ (((mS m a).1 = 22 ∨ (mS m a).1 = 23) ∧ jIx i (mS m a).2) ∧ AW d 195 58 [l0] [.int (mI m a (jx i))] m Q := A_baload hB_X12_see dX12_see_57
theorem dX12_see_58 : decode cX12_see 58 = .ok (.sipush 255, 3) := by decide +kernel
theorem tX12_see_58 {d : Nat} {l0 : Option Value} {v0 : Value} {m : jmM} {Q : Option Value → jmM → Prop} : AW d 195 58 [l0] [v0] m Q ↔ AW d 195 61 [l0] [.int 255, v0] m Q := A_sipush hB_X12_see dX12_see_58 rfl
theorem dX12_see_61 : decode cX12_see 61 = .ok (.iand, 1) := by decide +kernel
theorem tX12_see_61 {d : Nat} {l0 : Option Value} {x y : Int32} {m : jmM} {Q : Option Value → jmM → Prop} : AW d 195 61 [l0] [.int y, .int x] m Q ↔ AW d 195 62 [l0] [.int (x &&& y)] m Q := A_iand hB_X12_see dX12_see_61
theorem dX12_see_62 : decode cX12_see 62 = .ok (.goto 4, 3) := by decide +kernel
theorem tX12_see_62 {d : Nat} {l0 : Option Value} {v0 : Value} {m : jmM} {Q : Option Value → jmM → Prop} : AW d 195 62 [l0] [v0] m Q ↔ AW d 195 66 [l0] [v0] m Q := A_goto hB_X12_see dX12_see_62 (by decide)
theorem dX12_see_65 : decode cX12_see 65 = .ok (.iconst (-1), 1) := by decide +kernel
theorem tX12_see_65 {d : Nat} {l0 : Option Value} {m : jmM} {Q : Option Value → jmM → Prop} : AW d 195 65 [l0] [] m Q ↔ AW d 195 66 [l0] [.int (-1)] m Q := A_iconst hB_X12_see dX12_see_65 (by decide)
theorem dX12_see_66 : decode cX12_see 66 = .ok (.ireturn, 1) := by decide +kernel
theorem tX12_see_66 {d : Nat} {l0 : Option Value} {x : Int32} {m : jmM} {Q : Option Value → jmM → Prop} : AW d 195 66 [l0] [.int x] m Q ↔ Q (some (.int x)) m := A_ireturn hB_X12_see dX12_see_66 hR_X12_see
theorem hB_X12_isDigit : jB 196 = cX12_isDigit := rfl
theorem hO_X12_isDigit : jO 196 = 12 := rfl
theorem hR_X12_isDigit : jRt 196 = (some .boolean) := rfl
theorem nX12_isDigit (d : Nat) (x0 : Nat) (x1 : Int32) (m : jmM) (Q : Option Value → jmM → Prop) : CC (d + 1) 196 [.ref x0, .int x1] m Q ↔ AW d 196 0 [some (.ref x0), some (.int x1)] [] m Q := CC_body (Nat.le_of_ble_eq_true rfl)
theorem dX12_isDigit_0 : decode cX12_isDigit 0 = .ok (.iload_n 1, 1) := by decide +kernel
theorem tX12_isDigit_0 {d : Nat} {l0 : Option Value} {x : Int32} {m : jmM} {Q : Option Value → jmM → Prop} : AW d 196 0 [l0, some (.int x)] [] m Q ↔ AW d 196 1 [l0, some (.int x)] [.int x] m Q := A_iload_n hB_X12_isDigit dX12_isDigit_0 rfl
theorem dX12_isDigit_1 : decode cX12_isDigit 1 = .ok (.aload_n 0, 1) := by decide +kernel
theorem tX12_isDigit_1 {d : Nat} {l1 : Option Value} {v0 : Value} {x : Nat} {m : jmM} {Q : Option Value → jmM → Prop} : AW d 196 1 [some (.ref x), l1] [v0] m Q ↔ AW d 196 2 [some (.ref x), l1] [.ref x, v0] m Q := A_aload_n hB_X12_isDigit dX12_isDigit_1 rfl
theorem dX12_isDigit_2 : decode cX12_isDigit 2 = .ok (.getfield 101, 3) := by decide +kernel
theorem tX12_isDigit_2 {d : Nat} {l0 l1 : Option Value} {v1 : Value} {a : Nat} {m : jmM} {Q : Option Value → jmM → Prop} : AW d 196 2 [l0, l1] [.ref a, v1] m Q ↔ (mS m a).1 = 12 ∧ AW d 196 5 [l0, l1] [.int (mI m a 1), v1] m Q := A_getfield (f := fun m a => .int (mI m a 1)) hB_X12_isDigit dX12_isDigit_2 hO_X12_isDigit fF_12_101 rfl
theorem dX12_isDigit_5 : decode cX12_isDigit 5 = .ok (.if_icmp .ge 29, 3) := by decide +kernel
theorem tX12_isDigit_5 {d : Nat} {l0 l1 : Option Value} {x y : Int32} {m : jmM} {Q : Option Value → jmM → Prop} : AW d 196 5 [l0, l1] [.int y, .int x] m Q ↔ if y ≤ x then AW d 196 34 [l0, l1] [] m Q else AW d 196 8 [l0, l1] [] m Q := A_icmp_ge hB_X12_isDigit dX12_isDigit_5 (by decide)
theorem dX12_isDigit_8 : decode cX12_isDigit 8 = .ok (.aload_n 0, 1) := by decide +kernel
theorem tX12_isDigit_8 {d : Nat} {l1 : Option Value} {x : Nat} {m : jmM} {Q : Option Value → jmM → Prop} : AW d 196 8 [some (.ref x), l1] [] m Q ↔ AW d 196 9 [some (.ref x), l1] [.ref x] m Q := A_aload_n hB_X12_isDigit dX12_isDigit_8 rfl
theorem dX12_isDigit_9 : decode cX12_isDigit 9 = .ok (.getfield 7, 3) := by decide +kernel
theorem tX12_isDigit_9 {d : Nat} {l0 l1 : Option Value} {a : Nat} {m : jmM} {Q : Option Value → jmM → Prop} : AW d 196 9 [l0, l1] [.ref a] m Q ↔ (mS m a).1 = 12 ∧ AW d 196 12 [l0, l1] [va_rf (mR m a 0)] m Q := A_getfield (f := fun m a => va_rf (mR m a 0)) hB_X12_isDigit dX12_isDigit_9 hO_X12_isDigit fF_12_7 rfl
theorem dX12_isDigit_12 : decode cX12_isDigit 12 = .ok (.iload_n 1, 1) := by decide +kernel
theorem tX12_isDigit_12 {d : Nat} {l0 : Option Value} {v0 : Value} {x : Int32} {m : jmM} {Q : Option Value → jmM → Prop} : AW d 196 12 [l0, some (.int x)] [v0] m Q ↔ AW d 196 13 [l0, some (.int x)] [.int x, v0] m Q := A_iload_n hB_X12_isDigit dX12_isDigit_12 rfl
theorem dX12_isDigit_13 : decode cX12_isDigit 13 = .ok (.baload, 1) := by decide +kernel
theorem tX12_isDigit_13 {d : Nat} {l0 l1 : Option Value} {i : Int32} {a : Nat} {m : jmM} {Q : Option Value → jmM → Prop} : AW d 196 13 [l0, l1] [.int i, .ref a] m Q ↔ (((mS m a).1 = 22 ∨ (mS m a).1 = 23) ∧ jIx i (mS m a).2) ∧ AW d 196 14 [l0, l1] [.int (mI m a (jx i))] m Q := A_baload hB_X12_isDigit dX12_isDigit_13
theorem dX12_isDigit_14 : decode cX12_isDigit 14 = .ok (.bipush 48, 2) := by decide +kernel
theorem tX12_isDigit_14 {d : Nat} {l0 l1 : Option Value} {v0 : Value} {m : jmM} {Q : Option Value → jmM → Prop} : AW d 196 14 [l0, l1] [v0] m Q ↔ AW d 196 16 [l0, l1] [.int 48, v0] m Q := A_bipush hB_X12_isDigit dX12_isDigit_14 rfl
theorem dX12_isDigit_16 : decode cX12_isDigit 16 = .ok (.if_icmp .lt 18, 3) := by decide +kernel
theorem tX12_isDigit_16 {d : Nat} {l0 l1 : Option Value} {x y : Int32} {m : jmM} {Q : Option Value → jmM → Prop} : AW d 196 16 [l0, l1] [.int y, .int x] m Q ↔ if x < y then AW d 196 34 [l0, l1] [] m Q else AW d 196 19 [l0, l1] [] m Q := A_icmp_lt hB_X12_isDigit dX12_isDigit_16 (by decide)
theorem dX12_isDigit_19 : decode cX12_isDigit 19 = .ok (.aload_n 0, 1) := by decide +kernel
theorem tX12_isDigit_19 {d : Nat} {l1 : Option Value} {x : Nat} {m : jmM} {Q : Option Value → jmM → Prop} : AW d 196 19 [some (.ref x), l1] [] m Q ↔ AW d 196 20 [some (.ref x), l1] [.ref x] m Q := A_aload_n hB_X12_isDigit dX12_isDigit_19 rfl
theorem dX12_isDigit_20 : decode cX12_isDigit 20 = .ok (.getfield 7, 3) := by decide +kernel
theorem tX12_isDigit_20 {d : Nat} {l0 l1 : Option Value} {a : Nat} {m : jmM} {Q : Option Value → jmM → Prop} : AW d 196 20 [l0, l1] [.ref a] m Q ↔ (mS m a).1 = 12 ∧ AW d 196 23 [l0, l1] [va_rf (mR m a 0)] m Q := A_getfield (f := fun m a => va_rf (mR m a 0)) hB_X12_isDigit dX12_isDigit_20 hO_X12_isDigit fF_12_7 rfl
theorem dX12_isDigit_23 : decode cX12_isDigit 23 = .ok (.iload_n 1, 1) := by decide +kernel
theorem tX12_isDigit_23 {d : Nat} {l0 : Option Value} {v0 : Value} {x : Int32} {m : jmM} {Q : Option Value → jmM → Prop} : AW d 196 23 [l0, some (.int x)] [v0] m Q ↔ AW d 196 24 [l0, some (.int x)] [.int x, v0] m Q := A_iload_n hB_X12_isDigit dX12_isDigit_23 rfl
theorem dX12_isDigit_24 : decode cX12_isDigit 24 = .ok (.baload, 1) := by decide +kernel
theorem tX12_isDigit_24 {d : Nat} {l0 l1 : Option Value} {i : Int32} {a : Nat} {m : jmM} {Q : Option Value → jmM → Prop} : AW d 196 24 [l0, l1] [.int i, .ref a] m Q ↔ (((mS m a).1 = 22 ∨ (mS m a).1 = 23) ∧ jIx i (mS m a).2) ∧ AW d 196 25 [l0, l1] [.int (mI m a (jx i))] m Q := A_baload hB_X12_isDigit dX12_isDigit_24
theorem dX12_isDigit_25 : decode cX12_isDigit 25 = .ok (.bipush 57, 2) := by decide +kernel
theorem tX12_isDigit_25 {d : Nat} {l0 l1 : Option Value} {v0 : Value} {m : jmM} {Q : Option Value → jmM → Prop} : AW d 196 25 [l0, l1] [v0] m Q ↔ AW d 196 27 [l0, l1] [.int 57, v0] m Q := A_bipush hB_X12_isDigit dX12_isDigit_25 rfl
theorem dX12_isDigit_27 : decode cX12_isDigit 27 = .ok (.if_icmp .gt 7, 3) := by decide +kernel
theorem tX12_isDigit_27 {d : Nat} {l0 l1 : Option Value} {x y : Int32} {m : jmM} {Q : Option Value → jmM → Prop} : AW d 196 27 [l0, l1] [.int y, .int x] m Q ↔ if y < x then AW d 196 34 [l0, l1] [] m Q else AW d 196 30 [l0, l1] [] m Q := A_icmp_gt hB_X12_isDigit dX12_isDigit_27 (by decide)
theorem dX12_isDigit_30 : decode cX12_isDigit 30 = .ok (.iconst 1, 1) := by decide +kernel
theorem tX12_isDigit_30 {d : Nat} {l0 l1 : Option Value} {m : jmM} {Q : Option Value → jmM → Prop} : AW d 196 30 [l0, l1] [] m Q ↔ AW d 196 31 [l0, l1] [.int 1] m Q := A_iconst hB_X12_isDigit dX12_isDigit_30 (by decide)
theorem dX12_isDigit_31 : decode cX12_isDigit 31 = .ok (.goto 4, 3) := by decide +kernel
theorem tX12_isDigit_31 {d : Nat} {l0 l1 : Option Value} {v0 : Value} {m : jmM} {Q : Option Value → jmM → Prop} : AW d 196 31 [l0, l1] [v0] m Q ↔ AW d 196 35 [l0, l1] [v0] m Q := A_goto hB_X12_isDigit dX12_isDigit_31 (by decide)
theorem dX12_isDigit_34 : decode cX12_isDigit 34 = .ok (.iconst 0, 1) := by decide +kernel
theorem tX12_isDigit_34 {d : Nat} {l0 l1 : Option Value} {m : jmM} {Q : Option Value → jmM → Prop} : AW d 196 34 [l0, l1] [] m Q ↔ AW d 196 35 [l0, l1] [.int 0] m Q := A_iconst hB_X12_isDigit dX12_isDigit_34 (by decide)
theorem dX12_isDigit_35 : decode cX12_isDigit 35 = .ok (.ireturn, 1) := by decide +kernel
theorem tX12_isDigit_35 {d : Nat} {l0 l1 : Option Value} {x : Int32} {m : jmM} {Q : Option Value → jmM → Prop} : AW d 196 35 [l0, l1] [.int x] m Q ↔ jBool x ∧ Q (some (.int x)) m := A_zreturn hB_X12_isDigit dX12_isDigit_35 hR_X12_isDigit
theorem hB_X12_isLetter : jB 197 = cX12_isLetter := rfl
theorem hO_X12_isLetter : jO 197 = 12 := rfl
theorem hR_X12_isLetter : jRt 197 = (some .boolean) := rfl
theorem nX12_isLetter (d : Nat) (x0 : Nat) (x1 : Int32) (m : jmM) (Q : Option Value → jmM → Prop) : CC (d + 1) 197 [.ref x0, .int x1] m Q ↔ AW d 197 0 [some (.ref x0), some (.int x1)] [] m Q := CC_body (Nat.le_of_ble_eq_true rfl)
theorem dX12_isLetter_0 : decode cX12_isLetter 0 = .ok (.iload_n 1, 1) := by decide +kernel
theorem tX12_isLetter_0 {d : Nat} {l0 : Option Value} {x : Int32} {m : jmM} {Q : Option Value → jmM → Prop} : AW d 197 0 [l0, some (.int x)] [] m Q ↔ AW d 197 1 [l0, some (.int x)] [.int x] m Q := A_iload_n hB_X12_isLetter dX12_isLetter_0 rfl
theorem dX12_isLetter_1 : decode cX12_isLetter 1 = .ok (.aload_n 0, 1) := by decide +kernel
theorem tX12_isLetter_1 {d : Nat} {l1 : Option Value} {v0 : Value} {x : Nat} {m : jmM} {Q : Option Value → jmM → Prop} : AW d 197 1 [some (.ref x), l1] [v0] m Q ↔ AW d 197 2 [some (.ref x), l1] [.ref x, v0] m Q := A_aload_n hB_X12_isLetter dX12_isLetter_1 rfl
theorem dX12_isLetter_2 : decode cX12_isLetter 2 = .ok (.getfield 101, 3) := by decide +kernel
theorem tX12_isLetter_2 {d : Nat} {l0 l1 : Option Value} {v1 : Value} {a : Nat} {m : jmM} {Q : Option Value → jmM → Prop} : AW d 197 2 [l0, l1] [.ref a, v1] m Q ↔ (mS m a).1 = 12 ∧ AW d 197 5 [l0, l1] [.int (mI m a 1), v1] m Q := A_getfield (f := fun m a => .int (mI m a 1)) hB_X12_isLetter dX12_isLetter_2 hO_X12_isLetter fF_12_101 rfl
theorem dX12_isLetter_5 : decode cX12_isLetter 5 = .ok (.if_icmp .ge 29, 3) := by decide +kernel
theorem tX12_isLetter_5 {d : Nat} {l0 l1 : Option Value} {x y : Int32} {m : jmM} {Q : Option Value → jmM → Prop} : AW d 197 5 [l0, l1] [.int y, .int x] m Q ↔ if y ≤ x then AW d 197 34 [l0, l1] [] m Q else AW d 197 8 [l0, l1] [] m Q := A_icmp_ge hB_X12_isLetter dX12_isLetter_5 (by decide)
theorem dX12_isLetter_8 : decode cX12_isLetter 8 = .ok (.aload_n 0, 1) := by decide +kernel
theorem tX12_isLetter_8 {d : Nat} {l1 : Option Value} {x : Nat} {m : jmM} {Q : Option Value → jmM → Prop} : AW d 197 8 [some (.ref x), l1] [] m Q ↔ AW d 197 9 [some (.ref x), l1] [.ref x] m Q := A_aload_n hB_X12_isLetter dX12_isLetter_8 rfl
theorem dX12_isLetter_9 : decode cX12_isLetter 9 = .ok (.getfield 7, 3) := by decide +kernel
theorem tX12_isLetter_9 {d : Nat} {l0 l1 : Option Value} {a : Nat} {m : jmM} {Q : Option Value → jmM → Prop} : AW d 197 9 [l0, l1] [.ref a] m Q ↔ (mS m a).1 = 12 ∧ AW d 197 12 [l0, l1] [va_rf (mR m a 0)] m Q := A_getfield (f := fun m a => va_rf (mR m a 0)) hB_X12_isLetter dX12_isLetter_9 hO_X12_isLetter fF_12_7 rfl
theorem dX12_isLetter_12 : decode cX12_isLetter 12 = .ok (.iload_n 1, 1) := by decide +kernel
theorem tX12_isLetter_12 {d : Nat} {l0 : Option Value} {v0 : Value} {x : Int32} {m : jmM} {Q : Option Value → jmM → Prop} : AW d 197 12 [l0, some (.int x)] [v0] m Q ↔ AW d 197 13 [l0, some (.int x)] [.int x, v0] m Q := A_iload_n hB_X12_isLetter dX12_isLetter_12 rfl
theorem dX12_isLetter_13 : decode cX12_isLetter 13 = .ok (.baload, 1) := by decide +kernel
theorem tX12_isLetter_13 {d : Nat} {l0 l1 : Option Value} {i : Int32} {a : Nat} {m : jmM} {Q : Option Value → jmM → Prop} : AW d 197 13 [l0, l1] [.int i, .ref a] m Q ↔ (((mS m a).1 = 22 ∨ (mS m a).1 = 23) ∧ jIx i (mS m a).2) ∧ AW d 197 14 [l0, l1] [.int (mI m a (jx i))] m Q := A_baload hB_X12_isLetter dX12_isLetter_13
theorem dX12_isLetter_14 : decode cX12_isLetter 14 = .ok (.bipush 97, 2) := by decide +kernel
theorem tX12_isLetter_14 {d : Nat} {l0 l1 : Option Value} {v0 : Value} {m : jmM} {Q : Option Value → jmM → Prop} : AW d 197 14 [l0, l1] [v0] m Q ↔ AW d 197 16 [l0, l1] [.int 97, v0] m Q := A_bipush hB_X12_isLetter dX12_isLetter_14 rfl
theorem dX12_isLetter_16 : decode cX12_isLetter 16 = .ok (.if_icmp .lt 18, 3) := by decide +kernel
theorem tX12_isLetter_16 {d : Nat} {l0 l1 : Option Value} {x y : Int32} {m : jmM} {Q : Option Value → jmM → Prop} : AW d 197 16 [l0, l1] [.int y, .int x] m Q ↔ if x < y then AW d 197 34 [l0, l1] [] m Q else AW d 197 19 [l0, l1] [] m Q := A_icmp_lt hB_X12_isLetter dX12_isLetter_16 (by decide)
theorem dX12_isLetter_19 : decode cX12_isLetter 19 = .ok (.aload_n 0, 1) := by decide +kernel
theorem tX12_isLetter_19 {d : Nat} {l1 : Option Value} {x : Nat} {m : jmM} {Q : Option Value → jmM → Prop} : AW d 197 19 [some (.ref x), l1] [] m Q ↔ AW d 197 20 [some (.ref x), l1] [.ref x] m Q := A_aload_n hB_X12_isLetter dX12_isLetter_19 rfl
theorem dX12_isLetter_20 : decode cX12_isLetter 20 = .ok (.getfield 7, 3) := by decide +kernel
theorem tX12_isLetter_20 {d : Nat} {l0 l1 : Option Value} {a : Nat} {m : jmM} {Q : Option Value → jmM → Prop} : AW d 197 20 [l0, l1] [.ref a] m Q ↔ (mS m a).1 = 12 ∧ AW d 197 23 [l0, l1] [va_rf (mR m a 0)] m Q := A_getfield (f := fun m a => va_rf (mR m a 0)) hB_X12_isLetter dX12_isLetter_20 hO_X12_isLetter fF_12_7 rfl
theorem dX12_isLetter_23 : decode cX12_isLetter 23 = .ok (.iload_n 1, 1) := by decide +kernel
theorem tX12_isLetter_23 {d : Nat} {l0 : Option Value} {v0 : Value} {x : Int32} {m : jmM} {Q : Option Value → jmM → Prop} : AW d 197 23 [l0, some (.int x)] [v0] m Q ↔ AW d 197 24 [l0, some (.int x)] [.int x, v0] m Q := A_iload_n hB_X12_isLetter dX12_isLetter_23 rfl
theorem dX12_isLetter_24 : decode cX12_isLetter 24 = .ok (.baload, 1) := by decide +kernel
theorem tX12_isLetter_24 {d : Nat} {l0 l1 : Option Value} {i : Int32} {a : Nat} {m : jmM} {Q : Option Value → jmM → Prop} : AW d 197 24 [l0, l1] [.int i, .ref a] m Q ↔ (((mS m a).1 = 22 ∨ (mS m a).1 = 23) ∧ jIx i (mS m a).2) ∧ AW d 197 25 [l0, l1] [.int (mI m a (jx i))] m Q := A_baload hB_X12_isLetter dX12_isLetter_24
theorem dX12_isLetter_25 : decode cX12_isLetter 25 = .ok (.bipush 122, 2) := by decide +kernel
theorem tX12_isLetter_25 {d : Nat} {l0 l1 : Option Value} {v0 : Value} {m : jmM} {Q : Option Value → jmM → Prop} : AW d 197 25 [l0, l1] [v0] m Q ↔ AW d 197 27 [l0, l1] [.int 122, v0] m Q := A_bipush hB_X12_isLetter dX12_isLetter_25 rfl
theorem dX12_isLetter_27 : decode cX12_isLetter 27 = .ok (.if_icmp .gt 7, 3) := by decide +kernel
theorem tX12_isLetter_27 {d : Nat} {l0 l1 : Option Value} {x y : Int32} {m : jmM} {Q : Option Value → jmM → Prop} : AW d 197 27 [l0, l1] [.int y, .int x] m Q ↔ if y < x then AW d 197 34 [l0, l1] [] m Q else AW d 197 30 [l0, l1] [] m Q := A_icmp_gt hB_X12_isLetter dX12_isLetter_27 (by decide)
theorem dX12_isLetter_30 : decode cX12_isLetter 30 = .ok (.iconst 1, 1) := by decide +kernel
theorem tX12_isLetter_30 {d : Nat} {l0 l1 : Option Value} {m : jmM} {Q : Option Value → jmM → Prop} : AW d 197 30 [l0, l1] [] m Q ↔ AW d 197 31 [l0, l1] [.int 1] m Q := A_iconst hB_X12_isLetter dX12_isLetter_30 (by decide)
theorem dX12_isLetter_31 : decode cX12_isLetter 31 = .ok (.goto 4, 3) := by decide +kernel
theorem tX12_isLetter_31 {d : Nat} {l0 l1 : Option Value} {v0 : Value} {m : jmM} {Q : Option Value → jmM → Prop} : AW d 197 31 [l0, l1] [v0] m Q ↔ AW d 197 35 [l0, l1] [v0] m Q := A_goto hB_X12_isLetter dX12_isLetter_31 (by decide)
theorem dX12_isLetter_34 : decode cX12_isLetter 34 = .ok (.iconst 0, 1) := by decide +kernel
theorem tX12_isLetter_34 {d : Nat} {l0 l1 : Option Value} {m : jmM} {Q : Option Value → jmM → Prop} : AW d 197 34 [l0, l1] [] m Q ↔ AW d 197 35 [l0, l1] [.int 0] m Q := A_iconst hB_X12_isLetter dX12_isLetter_34 (by decide)
theorem dX12_isLetter_35 : decode cX12_isLetter 35 = .ok (.ireturn, 1) := by decide +kernel
theorem tX12_isLetter_35 {d : Nat} {l0 l1 : Option Value} {x : Int32} {m : jmM} {Q : Option Value → jmM → Prop} : AW d 197 35 [l0, l1] [.int x] m Q ↔ jBool x ∧ Q (some (.int x)) m := A_zreturn hB_X12_isLetter dX12_isLetter_35 hR_X12_isLetter
theorem hB_X12_isWord : jB 198 = cX12_isWord := rfl
theorem hO_X12_isWord : jO 198 = 12 := rfl
theorem hR_X12_isWord : jRt 198 = (some .boolean) := rfl
theorem nX12_isWord (d : Nat) (x0 : Nat) (x1 : Int64) (m : jmM) (Q : Option Value → jmM → Prop) : CC (d + 1) 198 [.ref x0, .long x1] m Q ↔ AW d 198 0 [some (.ref x0), some (.long x1), none, none, none, none] [] m Q := CC_body (Nat.le_of_ble_eq_true rfl)
theorem dX12_isWord_0 : decode cX12_isWord 0 = .ok (.aload_n 0, 1) := by decide +kernel
theorem tX12_isWord_0 {d : Nat} {l1 l2 l3 l4 l5 : Option Value} {x : Nat} {m : jmM} {Q : Option Value → jmM → Prop} : AW d 198 0 [some (.ref x), l1, l2, l3, l4, l5] [] m Q ↔ AW d 198 1 [some (.ref x), l1, l2, l3, l4, l5] [.ref x] m Q := A_aload_n hB_X12_isWord dX12_isWord_0 rfl
theorem dX12_isWord_1 : decode cX12_isWord 1 = .ok (.invokevirtual 114, 3) := by decide +kernel
theorem tX12_isWord_1 {d : Nat} {l0 l1 l2 l3 l4 l5 : Option Value} {a : Nat} {m : jmM} {Q : Option Value → jmM → Prop} : AW d 198 1 [l0, l1, l2, l3, l4, l5] [.ref a] m Q ↔ (mS m a).1 = 12 ∧ CC d 195 [.ref a] m (jK d 198 4 [l0, l1, l2, l3, l4, l5] [] Q) := A_callV hB_X12_isWord dX12_isWord_1 hO_X12_isWord fS_12_114 ⟨Nat.le_of_ble_eq_true rfl, Nat.le_of_ble_eq_true rfl⟩ rfl rfl rfl
theorem dX12_isWord_4 : decode cX12_isWord 4 = .ok (.pop, 1) := by decide +kernel
theorem tX12_isWord_4 {d : Nat} {l0 l1 l2 l3 l4 l5 : Option Value} {x : Int32} {m : jmM} {Q : Option Value → jmM → Prop} : AW d 198 4 [l0, l1, l2, l3, l4, l5] [.int x] m Q ↔ AW d 198 5 [l0, l1, l2, l3, l4, l5] [] m Q := A_pop_i hB_X12_isWord dX12_isWord_4
theorem dX12_isWord_5 : decode cX12_isWord 5 = .ok (.lconst 0, 1) := by decide +kernel
theorem tX12_isWord_5 {d : Nat} {l0 l1 l2 l3 l4 l5 : Option Value} {m : jmM} {Q : Option Value → jmM → Prop} : AW d 198 5 [l0, l1, l2, l3, l4, l5] [] m Q ↔ AW d 198 6 [l0, l1, l2, l3, l4, l5] [.long 0] m Q := A_lconst hB_X12_isWord dX12_isWord_5 (by decide)
theorem dX12_isWord_6 : decode cX12_isWord 6 = .ok (.lstore_n 3, 1) := by decide +kernel
theorem tX12_isWord_6 {d : Nat} {l0 l1 l2 l3 l4 l5 : Option Value} {x : Int64} {m : jmM} {Q : Option Value → jmM → Prop} : AW d 198 6 [l0, l1, l2, l3, l4, l5] [.long x] m Q ↔ AW d 198 7 [l0, l1, jc1 l2, some (.long x), none, l5] [] m Q := A_lstore_n hB_X12_isWord dX12_isWord_6 (Nat.le_of_ble_eq_true rfl) rfl
theorem dX12_isWord_7 : decode cX12_isWord 7 = .ok (.iconst 0, 1) := by decide +kernel
theorem tX12_isWord_7 {d : Nat} {l0 l1 l2 l3 l4 l5 : Option Value} {m : jmM} {Q : Option Value → jmM → Prop} : AW d 198 7 [l0, l1, l2, l3, l4, l5] [] m Q ↔ AW d 198 8 [l0, l1, l2, l3, l4, l5] [.int 0] m Q := A_iconst hB_X12_isWord dX12_isWord_7 (by decide)
theorem dX12_isWord_8 : decode cX12_isWord 8 = .ok (.istore 5, 2) := by decide +kernel
theorem tX12_isWord_8 {d : Nat} {l0 l1 l2 l3 l4 l5 : Option Value} {x : Int32} {m : jmM} {Q : Option Value → jmM → Prop} : AW d 198 8 [l0, l1, l2, l3, l4, l5] [.int x] m Q ↔ AW d 198 10 [l0, l1, l2, l3, jc1 l4, some (.int x)] [] m Q := A_istore hB_X12_isWord dX12_isWord_8 (Nat.le_of_ble_eq_true rfl) rfl
theorem dX12_isWord_10 : decode cX12_isWord 10 = .ok (.aload_n 0, 1) := by decide +kernel
theorem tX12_isWord_10 {d : Nat} {l1 l2 l3 l4 l5 : Option Value} {x : Nat} {m : jmM} {Q : Option Value → jmM → Prop} : AW d 198 10 [some (.ref x), l1, l2, l3, l4, l5] [] m Q ↔ AW d 198 11 [some (.ref x), l1, l2, l3, l4, l5] [.ref x] m Q := A_aload_n hB_X12_isWord dX12_isWord_10 rfl
theorem dX12_isWord_11 : decode cX12_isWord 11 = .ok (.aload_n 0, 1) := by decide +kernel
theorem tX12_isWord_11 {d : Nat} {l1 l2 l3 l4 l5 : Option Value} {v0 : Value} {x : Nat} {m : jmM} {Q : Option Value → jmM → Prop} : AW d 198 11 [some (.ref x), l1, l2, l3, l4, l5] [v0] m Q ↔ AW d 198 12 [some (.ref x), l1, l2, l3, l4, l5] [.ref x, v0] m Q := A_aload_n hB_X12_isWord dX12_isWord_11 rfl
theorem dX12_isWord_12 : decode cX12_isWord 12 = .ok (.getfield 111, 3) := by decide +kernel
theorem tX12_isWord_12 {d : Nat} {l0 l1 l2 l3 l4 l5 : Option Value} {v1 : Value} {a : Nat} {m : jmM} {Q : Option Value → jmM → Prop} : AW d 198 12 [l0, l1, l2, l3, l4, l5] [.ref a, v1] m Q ↔ (mS m a).1 = 12 ∧ AW d 198 15 [l0, l1, l2, l3, l4, l5] [.int (mI m a 11), v1] m Q := A_getfield (f := fun m a => .int (mI m a 11)) hB_X12_isWord dX12_isWord_12 hO_X12_isWord fF_12_111 rfl
theorem dX12_isWord_15 : decode cX12_isWord 15 = .ok (.iload 5, 2) := by decide +kernel
theorem tX12_isWord_15 {d : Nat} {l0 l1 l2 l3 l4 : Option Value} {v0 v1 : Value} {x : Int32} {m : jmM} {Q : Option Value → jmM → Prop} : AW d 198 15 [l0, l1, l2, l3, l4, some (.int x)] [v0, v1] m Q ↔ AW d 198 17 [l0, l1, l2, l3, l4, some (.int x)] [.int x, v0, v1] m Q := A_iload hB_X12_isWord dX12_isWord_15 rfl
theorem dX12_isWord_17 : decode cX12_isWord 17 = .ok (.iadd, 1) := by decide +kernel
theorem tX12_isWord_17 {d : Nat} {l0 l1 l2 l3 l4 l5 : Option Value} {v2 : Value} {x y : Int32} {m : jmM} {Q : Option Value → jmM → Prop} : AW d 198 17 [l0, l1, l2, l3, l4, l5] [.int y, .int x, v2] m Q ↔ AW d 198 18 [l0, l1, l2, l3, l4, l5] [.int (x + y), v2] m Q := A_iadd hB_X12_isWord dX12_isWord_17
theorem dX12_isWord_18 : decode cX12_isWord 18 = .ok (.invokevirtual 118, 3) := by decide +kernel
theorem tX12_isWord_18 {d : Nat} {l0 l1 l2 l3 l4 l5 : Option Value} {y0 : Value} {a : Nat} {m : jmM} {Q : Option Value → jmM → Prop} : AW d 198 18 [l0, l1, l2, l3, l4, l5] [y0, .ref a] m Q ↔ (mS m a).1 = 12 ∧ CC d 197 [.ref a, y0] m (jK d 198 21 [l0, l1, l2, l3, l4, l5] [] Q) := A_callV hB_X12_isWord dX12_isWord_18 hO_X12_isWord fS_12_118 ⟨Nat.le_of_ble_eq_true rfl, Nat.le_of_ble_eq_true rfl⟩ rfl rfl rfl
theorem dX12_isWord_21 : decode cX12_isWord 21 = .ok (.ifCond .eq 35, 3) := by decide +kernel
theorem tX12_isWord_21 {d : Nat} {l0 l1 l2 l3 l4 l5 : Option Value} {x : Int32} {m : jmM} {Q : Option Value → jmM → Prop} : AW d 198 21 [l0, l1, l2, l3, l4, l5] [.int x] m Q ↔ if x = 0 then AW d 198 56 [l0, l1, l2, l3, l4, l5] [] m Q else AW d 198 24 [l0, l1, l2, l3, l4, l5] [] m Q := A_if_eq hB_X12_isWord dX12_isWord_21 (by decide)
theorem dX12_isWord_24 : decode cX12_isWord 24 = .ok (.iload 5, 2) := by decide +kernel
theorem tX12_isWord_24 {d : Nat} {l0 l1 l2 l3 l4 : Option Value} {x : Int32} {m : jmM} {Q : Option Value → jmM → Prop} : AW d 198 24 [l0, l1, l2, l3, l4, some (.int x)] [] m Q ↔ AW d 198 26 [l0, l1, l2, l3, l4, some (.int x)] [.int x] m Q := A_iload hB_X12_isWord dX12_isWord_24 rfl
theorem dX12_isWord_26 : decode cX12_isWord 26 = .ok (.bipush 8, 2) := by decide +kernel
theorem tX12_isWord_26 {d : Nat} {l0 l1 l2 l3 l4 l5 : Option Value} {v0 : Value} {m : jmM} {Q : Option Value → jmM → Prop} : AW d 198 26 [l0, l1, l2, l3, l4, l5] [v0] m Q ↔ AW d 198 28 [l0, l1, l2, l3, l4, l5] [.int 8, v0] m Q := A_bipush hB_X12_isWord dX12_isWord_26 rfl
theorem dX12_isWord_28 : decode cX12_isWord 28 = .ok (.if_icmp .ge 22, 3) := by decide +kernel
theorem tX12_isWord_28 {d : Nat} {l0 l1 l2 l3 l4 l5 : Option Value} {x y : Int32} {m : jmM} {Q : Option Value → jmM → Prop} : AW d 198 28 [l0, l1, l2, l3, l4, l5] [.int y, .int x] m Q ↔ if y ≤ x then AW d 198 50 [l0, l1, l2, l3, l4, l5] [] m Q else AW d 198 31 [l0, l1, l2, l3, l4, l5] [] m Q := A_icmp_ge hB_X12_isWord dX12_isWord_28 (by decide)
theorem dX12_isWord_31 : decode cX12_isWord 31 = .ok (.lload_n 3, 1) := by decide +kernel
theorem tX12_isWord_31 {d : Nat} {l0 l1 l2 l4 l5 : Option Value} {x : Int64} {m : jmM} {Q : Option Value → jmM → Prop} : AW d 198 31 [l0, l1, l2, some (.long x), l4, l5] [] m Q ↔ AW d 198 32 [l0, l1, l2, some (.long x), l4, l5] [.long x] m Q := A_lload_n hB_X12_isWord dX12_isWord_31 rfl
theorem dX12_isWord_32 : decode cX12_isWord 32 = .ok (.bipush 8, 2) := by decide +kernel
theorem tX12_isWord_32 {d : Nat} {l0 l1 l2 l3 l4 l5 : Option Value} {v0 : Value} {m : jmM} {Q : Option Value → jmM → Prop} : AW d 198 32 [l0, l1, l2, l3, l4, l5] [v0] m Q ↔ AW d 198 34 [l0, l1, l2, l3, l4, l5] [.int 8, v0] m Q := A_bipush hB_X12_isWord dX12_isWord_32 rfl
theorem dX12_isWord_34 : decode cX12_isWord 34 = .ok (.lshl, 1) := by decide +kernel
theorem tX12_isWord_34 {d : Nat} {l0 l1 l2 l3 l4 l5 : Option Value} {y : Int32} {x : Int64} {m : jmM} {Q : Option Value → jmM → Prop} : AW d 198 34 [l0, l1, l2, l3, l4, l5] [.int y, .long x] m Q ↔ AW d 198 35 [l0, l1, l2, l3, l4, l5] [.long (x <<< (y.toInt64 &&& 63))] m Q := A_lshl hB_X12_isWord dX12_isWord_34
theorem dX12_isWord_35 : decode cX12_isWord 35 = .ok (.aload_n 0, 1) := by decide +kernel
theorem tX12_isWord_35 {d : Nat} {l1 l2 l3 l4 l5 : Option Value} {v0 : Value} {x : Nat} {m : jmM} {Q : Option Value → jmM → Prop} : AW d 198 35 [some (.ref x), l1, l2, l3, l4, l5] [v0] m Q ↔ AW d 198 36 [some (.ref x), l1, l2, l3, l4, l5] [.ref x, v0] m Q := A_aload_n hB_X12_isWord dX12_isWord_35 rfl
theorem dX12_isWord_36 : decode cX12_isWord 36 = .ok (.getfield 7, 3) := by decide +kernel
theorem tX12_isWord_36 {d : Nat} {l0 l1 l2 l3 l4 l5 : Option Value} {v1 : Value} {a : Nat} {m : jmM} {Q : Option Value → jmM → Prop} : AW d 198 36 [l0, l1, l2, l3, l4, l5] [.ref a, v1] m Q ↔ (mS m a).1 = 12 ∧ AW d 198 39 [l0, l1, l2, l3, l4, l5] [va_rf (mR m a 0), v1] m Q := A_getfield (f := fun m a => va_rf (mR m a 0)) hB_X12_isWord dX12_isWord_36 hO_X12_isWord fF_12_7 rfl
theorem dX12_isWord_39 : decode cX12_isWord 39 = .ok (.aload_n 0, 1) := by decide +kernel
theorem tX12_isWord_39 {d : Nat} {l1 l2 l3 l4 l5 : Option Value} {v0 v1 : Value} {x : Nat} {m : jmM} {Q : Option Value → jmM → Prop} : AW d 198 39 [some (.ref x), l1, l2, l3, l4, l5] [v0, v1] m Q ↔ AW d 198 40 [some (.ref x), l1, l2, l3, l4, l5] [.ref x, v0, v1] m Q := A_aload_n hB_X12_isWord dX12_isWord_39 rfl
theorem dX12_isWord_40 : decode cX12_isWord 40 = .ok (.getfield 111, 3) := by decide +kernel
theorem tX12_isWord_40 {d : Nat} {l0 l1 l2 l3 l4 l5 : Option Value} {v1 v2 : Value} {a : Nat} {m : jmM} {Q : Option Value → jmM → Prop} : AW d 198 40 [l0, l1, l2, l3, l4, l5] [.ref a, v1, v2] m Q ↔ (mS m a).1 = 12 ∧ AW d 198 43 [l0, l1, l2, l3, l4, l5] [.int (mI m a 11), v1, v2] m Q := A_getfield (f := fun m a => .int (mI m a 11)) hB_X12_isWord dX12_isWord_40 hO_X12_isWord fF_12_111 rfl
theorem dX12_isWord_43 : decode cX12_isWord 43 = .ok (.iload 5, 2) := by decide +kernel
theorem tX12_isWord_43 {d : Nat} {l0 l1 l2 l3 l4 : Option Value} {v0 v1 v2 : Value} {x : Int32} {m : jmM} {Q : Option Value → jmM → Prop} : AW d 198 43 [l0, l1, l2, l3, l4, some (.int x)] [v0, v1, v2] m Q ↔ AW d 198 45 [l0, l1, l2, l3, l4, some (.int x)] [.int x, v0, v1, v2] m Q := A_iload hB_X12_isWord dX12_isWord_43 rfl
theorem dX12_isWord_45 : decode cX12_isWord 45 = .ok (.iadd, 1) := by decide +kernel
theorem tX12_isWord_45 {d : Nat} {l0 l1 l2 l3 l4 l5 : Option Value} {v2 v3 : Value} {x y : Int32} {m : jmM} {Q : Option Value → jmM → Prop} : AW d 198 45 [l0, l1, l2, l3, l4, l5] [.int y, .int x, v2, v3] m Q ↔ AW d 198 46 [l0, l1, l2, l3, l4, l5] [.int (x + y), v2, v3] m Q := A_iadd hB_X12_isWord dX12_isWord_45
theorem dX12_isWord_46 : decode cX12_isWord 46 = .ok (.baload, 1) := by decide +kernel
theorem tX12_isWord_46 {d : Nat} {l0 l1 l2 l3 l4 l5 : Option Value} {v2 : Value} {i : Int32} {a : Nat} {m : jmM} {Q : Option Value → jmM → Prop} : AW d 198 46 [l0, l1, l2, l3, l4, l5] [.int i, .ref a, v2] m Q ↔ (((mS m a).1 = 22 ∨ (mS m a).1 = 23) ∧ jIx i (mS m a).2) ∧ AW d 198 47 [l0, l1, l2, l3, l4, l5] [.int (mI m a (jx i)), v2] m Q := A_baload hB_X12_isWord dX12_isWord_46
theorem dX12_isWord_47 : decode cX12_isWord 47 = .ok (.i2l, 1) := by decide +kernel
theorem tX12_isWord_47 {d : Nat} {l0 l1 l2 l3 l4 l5 : Option Value} {v1 : Value} {x : Int32} {m : jmM} {Q : Option Value → jmM → Prop} : AW d 198 47 [l0, l1, l2, l3, l4, l5] [.int x, v1] m Q ↔ AW d 198 48 [l0, l1, l2, l3, l4, l5] [.long x.toInt64, v1] m Q := A_i2l hB_X12_isWord dX12_isWord_47
theorem dX12_isWord_48 : decode cX12_isWord 48 = .ok (.lor, 1) := by decide +kernel
theorem tX12_isWord_48 {d : Nat} {l0 l1 l2 l3 l4 l5 : Option Value} {x y : Int64} {m : jmM} {Q : Option Value → jmM → Prop} : AW d 198 48 [l0, l1, l2, l3, l4, l5] [.long y, .long x] m Q ↔ AW d 198 49 [l0, l1, l2, l3, l4, l5] [.long (x ||| y)] m Q := A_lor hB_X12_isWord dX12_isWord_48
theorem dX12_isWord_49 : decode cX12_isWord 49 = .ok (.lstore_n 3, 1) := by decide +kernel
theorem tX12_isWord_49 {d : Nat} {l0 l1 l2 l3 l4 l5 : Option Value} {x : Int64} {m : jmM} {Q : Option Value → jmM → Prop} : AW d 198 49 [l0, l1, l2, l3, l4, l5] [.long x] m Q ↔ AW d 198 50 [l0, l1, jc1 l2, some (.long x), none, l5] [] m Q := A_lstore_n hB_X12_isWord dX12_isWord_49 (Nat.le_of_ble_eq_true rfl) rfl
theorem dX12_isWord_50 : decode cX12_isWord 50 = .ok (.iinc 5 1, 3) := by decide +kernel
theorem tX12_isWord_50 {d : Nat} {l0 l1 l2 l3 l4 : Option Value} {x : Int32} {m : jmM} {Q : Option Value → jmM → Prop} : AW d 198 50 [l0, l1, l2, l3, l4, some (.int x)] [] m Q ↔ AW d 198 53 [l0, l1, l2, l3, jc1 l4, some (.int (x + 1))] [] m Q := A_iinc hB_X12_isWord dX12_isWord_50 rfl (Nat.le_of_ble_eq_true rfl) (v := 1) (by decide) rfl
theorem dX12_isWord_53 : decode cX12_isWord 53 = .ok (.goto (-43), 3) := by decide +kernel
theorem tX12_isWord_53 {d : Nat} {l0 l1 l2 l3 l4 l5 : Option Value} {m : jmM} {Q : Option Value → jmM → Prop} : AW d 198 53 [l0, l1, l2, l3, l4, l5] [] m Q ↔ AW d 198 10 [l0, l1, l2, l3, l4, l5] [] m Q := A_goto hB_X12_isWord dX12_isWord_53 (by decide)
theorem dX12_isWord_56 : decode cX12_isWord 56 = .ok (.iload 5, 2) := by decide +kernel
theorem tX12_isWord_56 {d : Nat} {l0 l1 l2 l3 l4 : Option Value} {x : Int32} {m : jmM} {Q : Option Value → jmM → Prop} : AW d 198 56 [l0, l1, l2, l3, l4, some (.int x)] [] m Q ↔ AW d 198 58 [l0, l1, l2, l3, l4, some (.int x)] [.int x] m Q := A_iload hB_X12_isWord dX12_isWord_56 rfl
theorem dX12_isWord_58 : decode cX12_isWord 58 = .ok (.ifCond .le 20, 3) := by decide +kernel
theorem tX12_isWord_58 {d : Nat} {l0 l1 l2 l3 l4 l5 : Option Value} {x : Int32} {m : jmM} {Q : Option Value → jmM → Prop} : AW d 198 58 [l0, l1, l2, l3, l4, l5] [.int x] m Q ↔ if x ≤ 0 then AW d 198 78 [l0, l1, l2, l3, l4, l5] [] m Q else AW d 198 61 [l0, l1, l2, l3, l4, l5] [] m Q := A_if_le hB_X12_isWord dX12_isWord_58 (by decide)
theorem dX12_isWord_61 : decode cX12_isWord 61 = .ok (.iload 5, 2) := by decide +kernel
theorem tX12_isWord_61 {d : Nat} {l0 l1 l2 l3 l4 : Option Value} {x : Int32} {m : jmM} {Q : Option Value → jmM → Prop} : AW d 198 61 [l0, l1, l2, l3, l4, some (.int x)] [] m Q ↔ AW d 198 63 [l0, l1, l2, l3, l4, some (.int x)] [.int x] m Q := A_iload hB_X12_isWord dX12_isWord_61 rfl
theorem dX12_isWord_63 : decode cX12_isWord 63 = .ok (.bipush 8, 2) := by decide +kernel
theorem tX12_isWord_63 {d : Nat} {l0 l1 l2 l3 l4 l5 : Option Value} {v0 : Value} {m : jmM} {Q : Option Value → jmM → Prop} : AW d 198 63 [l0, l1, l2, l3, l4, l5] [v0] m Q ↔ AW d 198 65 [l0, l1, l2, l3, l4, l5] [.int 8, v0] m Q := A_bipush hB_X12_isWord dX12_isWord_63 rfl
theorem dX12_isWord_65 : decode cX12_isWord 65 = .ok (.if_icmp .ge 13, 3) := by decide +kernel
theorem tX12_isWord_65 {d : Nat} {l0 l1 l2 l3 l4 l5 : Option Value} {x y : Int32} {m : jmM} {Q : Option Value → jmM → Prop} : AW d 198 65 [l0, l1, l2, l3, l4, l5] [.int y, .int x] m Q ↔ if y ≤ x then AW d 198 78 [l0, l1, l2, l3, l4, l5] [] m Q else AW d 198 68 [l0, l1, l2, l3, l4, l5] [] m Q := A_icmp_ge hB_X12_isWord dX12_isWord_65 (by decide)
theorem dX12_isWord_68 : decode cX12_isWord 68 = .ok (.lload_n 3, 1) := by decide +kernel
theorem tX12_isWord_68 {d : Nat} {l0 l1 l2 l4 l5 : Option Value} {x : Int64} {m : jmM} {Q : Option Value → jmM → Prop} : AW d 198 68 [l0, l1, l2, some (.long x), l4, l5] [] m Q ↔ AW d 198 69 [l0, l1, l2, some (.long x), l4, l5] [.long x] m Q := A_lload_n hB_X12_isWord dX12_isWord_68 rfl
theorem dX12_isWord_69 : decode cX12_isWord 69 = .ok (.lload_n 1, 1) := by decide +kernel
theorem tX12_isWord_69 {d : Nat} {l0 l2 l3 l4 l5 : Option Value} {v0 : Value} {x : Int64} {m : jmM} {Q : Option Value → jmM → Prop} : AW d 198 69 [l0, some (.long x), l2, l3, l4, l5] [v0] m Q ↔ AW d 198 70 [l0, some (.long x), l2, l3, l4, l5] [.long x, v0] m Q := A_lload_n hB_X12_isWord dX12_isWord_69 rfl
theorem dX12_isWord_70 : decode cX12_isWord 70 = .ok (.lcmp, 1) := by decide +kernel
theorem tX12_isWord_70 {d : Nat} {l0 l1 l2 l3 l4 l5 : Option Value} {x y : Int64} {m : jmM} {Q : Option Value → jmM → Prop} : AW d 198 70 [l0, l1, l2, l3, l4, l5] [.long y, .long x] m Q ↔ AW d 198 71 [l0, l1, l2, l3, l4, l5] [.int (lg_cmp x y)] m Q := A_lcmp hB_X12_isWord dX12_isWord_70
theorem dX12_isWord_71 : decode cX12_isWord 71 = .ok (.ifCond .ne 7, 3) := by decide +kernel
theorem tX12_isWord_71 {d : Nat} {l0 l1 l2 l3 l4 l5 : Option Value} {x : Int32} {m : jmM} {Q : Option Value → jmM → Prop} : AW d 198 71 [l0, l1, l2, l3, l4, l5] [.int x] m Q ↔ if x = 0 then AW d 198 74 [l0, l1, l2, l3, l4, l5] [] m Q else AW d 198 78 [l0, l1, l2, l3, l4, l5] [] m Q := A_if_ne hB_X12_isWord dX12_isWord_71 (by decide)
theorem dX12_isWord_74 : decode cX12_isWord 74 = .ok (.iconst 1, 1) := by decide +kernel
theorem tX12_isWord_74 {d : Nat} {l0 l1 l2 l3 l4 l5 : Option Value} {m : jmM} {Q : Option Value → jmM → Prop} : AW d 198 74 [l0, l1, l2, l3, l4, l5] [] m Q ↔ AW d 198 75 [l0, l1, l2, l3, l4, l5] [.int 1] m Q := A_iconst hB_X12_isWord dX12_isWord_74 (by decide)
theorem dX12_isWord_75 : decode cX12_isWord 75 = .ok (.goto 4, 3) := by decide +kernel
theorem tX12_isWord_75 {d : Nat} {l0 l1 l2 l3 l4 l5 : Option Value} {v0 : Value} {m : jmM} {Q : Option Value → jmM → Prop} : AW d 198 75 [l0, l1, l2, l3, l4, l5] [v0] m Q ↔ AW d 198 79 [l0, l1, l2, l3, l4, l5] [v0] m Q := A_goto hB_X12_isWord dX12_isWord_75 (by decide)
theorem dX12_isWord_78 : decode cX12_isWord 78 = .ok (.iconst 0, 1) := by decide +kernel
theorem tX12_isWord_78 {d : Nat} {l0 l1 l2 l3 l4 l5 : Option Value} {m : jmM} {Q : Option Value → jmM → Prop} : AW d 198 78 [l0, l1, l2, l3, l4, l5] [] m Q ↔ AW d 198 79 [l0, l1, l2, l3, l4, l5] [.int 0] m Q := A_iconst hB_X12_isWord dX12_isWord_78 (by decide)
theorem dX12_isWord_79 : decode cX12_isWord 79 = .ok (.ireturn, 1) := by decide +kernel
theorem tX12_isWord_79 {d : Nat} {l0 l1 l2 l3 l4 l5 : Option Value} {x : Int32} {m : jmM} {Q : Option Value → jmM → Prop} : AW d 198 79 [l0, l1, l2, l3, l4, l5] [.int x] m Q ↔ jBool x ∧ Q (some (.int x)) m := A_zreturn hB_X12_isWord dX12_isWord_79 hR_X12_isWord
theorem hB_X12_passWord : jB 199 = cX12_passWord := rfl
theorem hO_X12_passWord : jO 199 = 12 := rfl
theorem hR_X12_passWord : jRt 199 = none := rfl
theorem nX12_passWord (d : Nat) (x0 : Nat) (m : jmM) (Q : Option Value → jmM → Prop) : CC (d + 1) 199 [.ref x0] m Q ↔ AW d 199 0 [some (.ref x0)] [] m Q := CC_body (Nat.le_of_ble_eq_true rfl)
theorem dX12_passWord_0 : decode cX12_passWord 0 = .ok (.aload_n 0, 1) := by decide +kernel
theorem tX12_passWord_0 {d : Nat} {x : Nat} {m : jmM} {Q : Option Value → jmM → Prop} : AW d 199 0 [some (.ref x)] [] m Q ↔ AW d 199 1 [some (.ref x)] [.ref x] m Q := A_aload_n hB_X12_passWord dX12_passWord_0 rfl
theorem dX12_passWord_1 : decode cX12_passWord 1 = .ok (.aload_n 0, 1) := by decide +kernel
theorem tX12_passWord_1 {d : Nat} {v0 : Value} {x : Nat} {m : jmM} {Q : Option Value → jmM → Prop} : AW d 199 1 [some (.ref x)] [v0] m Q ↔ AW d 199 2 [some (.ref x)] [.ref x, v0] m Q := A_aload_n hB_X12_passWord dX12_passWord_1 rfl
theorem dX12_passWord_2 : decode cX12_passWord 2 = .ok (.getfield 111, 3) := by decide +kernel
theorem tX12_passWord_2 {d : Nat} {l0 : Option Value} {v1 : Value} {a : Nat} {m : jmM} {Q : Option Value → jmM → Prop} : AW d 199 2 [l0] [.ref a, v1] m Q ↔ (mS m a).1 = 12 ∧ AW d 199 5 [l0] [.int (mI m a 11), v1] m Q := A_getfield (f := fun m a => .int (mI m a 11)) hB_X12_passWord dX12_passWord_2 hO_X12_passWord fF_12_111 rfl
theorem dX12_passWord_5 : decode cX12_passWord 5 = .ok (.invokevirtual 118, 3) := by decide +kernel
theorem tX12_passWord_5 {d : Nat} {l0 : Option Value} {y0 : Value} {a : Nat} {m : jmM} {Q : Option Value → jmM → Prop} : AW d 199 5 [l0] [y0, .ref a] m Q ↔ (mS m a).1 = 12 ∧ CC d 197 [.ref a, y0] m (jK d 199 8 [l0] [] Q) := A_callV hB_X12_passWord dX12_passWord_5 hO_X12_passWord fS_12_118 ⟨Nat.le_of_ble_eq_true rfl, Nat.le_of_ble_eq_true rfl⟩ rfl rfl rfl
theorem dX12_passWord_8 : decode cX12_passWord 8 = .ok (.ifCond .eq 16, 3) := by decide +kernel
theorem tX12_passWord_8 {d : Nat} {l0 : Option Value} {x : Int32} {m : jmM} {Q : Option Value → jmM → Prop} : AW d 199 8 [l0] [.int x] m Q ↔ if x = 0 then AW d 199 24 [l0] [] m Q else AW d 199 11 [l0] [] m Q := A_if_eq hB_X12_passWord dX12_passWord_8 (by decide)
theorem dX12_passWord_11 : decode cX12_passWord 11 = .ok (.aload_n 0, 1) := by decide +kernel
theorem tX12_passWord_11 {d : Nat} {x : Nat} {m : jmM} {Q : Option Value → jmM → Prop} : AW d 199 11 [some (.ref x)] [] m Q ↔ AW d 199 12 [some (.ref x)] [.ref x] m Q := A_aload_n hB_X12_passWord dX12_passWord_11 rfl
theorem dX12_passWord_12 : decode cX12_passWord 12 = .ok (.dup, 1) := by decide +kernel
theorem tX12_passWord_12 {d : Nat} {l0 : Option Value} {x : Nat} {m : jmM} {Q : Option Value → jmM → Prop} : AW d 199 12 [l0] [.ref x] m Q ↔ AW d 199 13 [l0] [.ref x, .ref x] m Q := A_dup_a hB_X12_passWord dX12_passWord_12
theorem dX12_passWord_13 : decode cX12_passWord 13 = .ok (.getfield 111, 3) := by decide +kernel
theorem tX12_passWord_13 {d : Nat} {l0 : Option Value} {v1 : Value} {a : Nat} {m : jmM} {Q : Option Value → jmM → Prop} : AW d 199 13 [l0] [.ref a, v1] m Q ↔ (mS m a).1 = 12 ∧ AW d 199 16 [l0] [.int (mI m a 11), v1] m Q := A_getfield (f := fun m a => .int (mI m a 11)) hB_X12_passWord dX12_passWord_13 hO_X12_passWord fF_12_111 rfl
theorem dX12_passWord_16 : decode cX12_passWord 16 = .ok (.iconst 1, 1) := by decide +kernel
theorem tX12_passWord_16 {d : Nat} {l0 : Option Value} {v0 v1 : Value} {m : jmM} {Q : Option Value → jmM → Prop} : AW d 199 16 [l0] [v0, v1] m Q ↔ AW d 199 17 [l0] [.int 1, v0, v1] m Q := A_iconst hB_X12_passWord dX12_passWord_16 (by decide)
theorem dX12_passWord_17 : decode cX12_passWord 17 = .ok (.iadd, 1) := by decide +kernel
theorem tX12_passWord_17 {d : Nat} {l0 : Option Value} {v2 : Value} {x y : Int32} {m : jmM} {Q : Option Value → jmM → Prop} : AW d 199 17 [l0] [.int y, .int x, v2] m Q ↔ AW d 199 18 [l0] [.int (x + y), v2] m Q := A_iadd hB_X12_passWord dX12_passWord_17
theorem dX12_passWord_18 : decode cX12_passWord 18 = .ok (.putfield 111, 3) := by decide +kernel
theorem tX12_passWord_18 {d : Nat} {l0 : Option Value} {x : Int32} {a : Nat} {m : jmM} {Q : Option Value → jmM → Prop} : AW d 199 18 [l0] [.int x, .ref a] m Q ↔ (mS m a).1 = 12 ∧ AW d 199 21 [l0] [] (cI m a (jup (mI m a) 11 x)) Q := A_putI hB_X12_passWord dX12_passWord_18 hO_X12_passWord fF_12_111 rfl (fun h => Bool.noConfusion h)
theorem dX12_passWord_21 : decode cX12_passWord 21 = .ok (.goto (-21), 3) := by decide +kernel
theorem tX12_passWord_21 {d : Nat} {l0 : Option Value} {m : jmM} {Q : Option Value → jmM → Prop} : AW d 199 21 [l0] [] m Q ↔ AW d 199 0 [l0] [] m Q := A_goto hB_X12_passWord dX12_passWord_21 (by decide)
theorem dX12_passWord_24 : decode cX12_passWord 24 = .ok (.return_, 1) := by decide +kernel
theorem tX12_passWord_24 {d : Nat} {l0 : Option Value} {m : jmM} {Q : Option Value → jmM → Prop} : AW d 199 24 [l0] [] m Q ↔ Q none m := A_return hB_X12_passWord dX12_passWord_24 hR_X12_passWord
theorem hB_X12_takesWord : jB 200 = cX12_takesWord := rfl
theorem hO_X12_takesWord : jO 200 = 12 := rfl
theorem hR_X12_takesWord : jRt 200 = (some .boolean) := rfl
theorem nX12_takesWord (d : Nat) (x0 : Nat) (x1 : Int64) (m : jmM) (Q : Option Value → jmM → Prop) : CC (d + 1) 200 [.ref x0, .long x1] m Q ↔ AW d 200 0 [some (.ref x0), some (.long x1), none] [] m Q := CC_body (Nat.le_of_ble_eq_true rfl)
theorem dX12_takesWord_0 : decode cX12_takesWord 0 = .ok (.aload_n 0, 1) := by decide +kernel
theorem tX12_takesWord_0 {d : Nat} {l1 l2 : Option Value} {x : Nat} {m : jmM} {Q : Option Value → jmM → Prop} : AW d 200 0 [some (.ref x), l1, l2] [] m Q ↔ AW d 200 1 [some (.ref x), l1, l2] [.ref x] m Q := A_aload_n hB_X12_takesWord dX12_takesWord_0 rfl
theorem dX12_takesWord_1 : decode cX12_takesWord 1 = .ok (.lload_n 1, 1) := by decide +kernel
theorem tX12_takesWord_1 {d : Nat} {l0 l2 : Option Value} {v0 : Value} {x : Int64} {m : jmM} {Q : Option Value → jmM → Prop} : AW d 200 1 [l0, some (.long x), l2] [v0] m Q ↔ AW d 200 2 [l0, some (.long x), l2] [.long x, v0] m Q := A_lload_n hB_X12_takesWord dX12_takesWord_1 rfl
theorem dX12_takesWord_2 : decode cX12_takesWord 2 = .ok (.invokevirtual 122, 3) := by decide +kernel
theorem tX12_takesWord_2 {d : Nat} {l0 l1 l2 : Option Value} {y0 : Value} {a : Nat} {m : jmM} {Q : Option Value → jmM → Prop} : AW d 200 2 [l0, l1, l2] [y0, .ref a] m Q ↔ (mS m a).1 = 12 ∧ CC d 198 [.ref a, y0] m (jK d 200 5 [l0, l1, l2] [] Q) := A_callV hB_X12_takesWord dX12_takesWord_2 hO_X12_takesWord fS_12_122 ⟨Nat.le_of_ble_eq_true rfl, Nat.le_of_ble_eq_true rfl⟩ rfl rfl rfl
theorem dX12_takesWord_5 : decode cX12_takesWord 5 = .ok (.ifCond .ne 5, 3) := by decide +kernel
theorem tX12_takesWord_5 {d : Nat} {l0 l1 l2 : Option Value} {x : Int32} {m : jmM} {Q : Option Value → jmM → Prop} : AW d 200 5 [l0, l1, l2] [.int x] m Q ↔ if x = 0 then AW d 200 8 [l0, l1, l2] [] m Q else AW d 200 10 [l0, l1, l2] [] m Q := A_if_ne hB_X12_takesWord dX12_takesWord_5 (by decide)
theorem dX12_takesWord_8 : decode cX12_takesWord 8 = .ok (.iconst 0, 1) := by decide +kernel
theorem tX12_takesWord_8 {d : Nat} {l0 l1 l2 : Option Value} {m : jmM} {Q : Option Value → jmM → Prop} : AW d 200 8 [l0, l1, l2] [] m Q ↔ AW d 200 9 [l0, l1, l2] [.int 0] m Q := A_iconst hB_X12_takesWord dX12_takesWord_8 (by decide)
theorem dX12_takesWord_9 : decode cX12_takesWord 9 = .ok (.ireturn, 1) := by decide +kernel
theorem tX12_takesWord_9 {d : Nat} {l0 l1 l2 : Option Value} {x : Int32} {m : jmM} {Q : Option Value → jmM → Prop} : AW d 200 9 [l0, l1, l2] [.int x] m Q ↔ jBool x ∧ Q (some (.int x)) m := A_zreturn hB_X12_takesWord dX12_takesWord_9 hR_X12_takesWord
theorem dX12_takesWord_10 : decode cX12_takesWord 10 = .ok (.aload_n 0, 1) := by decide +kernel
theorem tX12_takesWord_10 {d : Nat} {l1 l2 : Option Value} {x : Nat} {m : jmM} {Q : Option Value → jmM → Prop} : AW d 200 10 [some (.ref x), l1, l2] [] m Q ↔ AW d 200 11 [some (.ref x), l1, l2] [.ref x] m Q := A_aload_n hB_X12_takesWord dX12_takesWord_10 rfl
theorem dX12_takesWord_11 : decode cX12_takesWord 11 = .ok (.invokevirtual 126, 3) := by decide +kernel
theorem tX12_takesWord_11 {d : Nat} {l0 l1 l2 : Option Value} {a : Nat} {m : jmM} {Q : Option Value → jmM → Prop} : AW d 200 11 [l0, l1, l2] [.ref a] m Q ↔ (mS m a).1 = 12 ∧ CC d 199 [.ref a] m (jK d 200 14 [l0, l1, l2] [] Q) := A_callV hB_X12_takesWord dX12_takesWord_11 hO_X12_takesWord fS_12_126 ⟨Nat.le_of_ble_eq_true rfl, Nat.le_of_ble_eq_true rfl⟩ rfl rfl rfl
theorem dX12_takesWord_14 : decode cX12_takesWord 14 = .ok (.iconst 1, 1) := by decide +kernel
theorem tX12_takesWord_14 {d : Nat} {l0 l1 l2 : Option Value} {m : jmM} {Q : Option Value → jmM → Prop} : AW d 200 14 [l0, l1, l2] [] m Q ↔ AW d 200 15 [l0, l1, l2] [.int 1] m Q := A_iconst hB_X12_takesWord dX12_takesWord_14 (by decide)
theorem dX12_takesWord_15 : decode cX12_takesWord 15 = .ok (.ireturn, 1) := by decide +kernel
theorem tX12_takesWord_15 {d : Nat} {l0 l1 l2 : Option Value} {x : Int32} {m : jmM} {Q : Option Value → jmM → Prop} : AW d 200 15 [l0, l1, l2] [.int x] m Q ↔ jBool x ∧ Q (some (.int x)) m := A_zreturn hB_X12_takesWord dX12_takesWord_15 hR_X12_takesWord
theorem hB_X12_number : jB 201 = cX12_number := rfl
theorem hO_X12_number : jO 201 = 12 := rfl
theorem hR_X12_number : jRt 201 = (some .boolean) := rfl
theorem nX12_number (d : Nat) (x0 : Nat) (x1 : Int32) (m : jmM) (Q : Option Value → jmM → Prop) : CC (d + 1) 201 [.ref x0, .int x1] m Q ↔ AW d 201 0 [some (.ref x0), some (.int x1), none, none] [] m Q := CC_body (Nat.le_of_ble_eq_true rfl)
theorem dX12_number_0 : decode cX12_number 0 = .ok (.aload_n 0, 1) := by decide +kernel
theorem tX12_number_0 {d : Nat} {l1 l2 l3 : Option Value} {x : Nat} {m : jmM} {Q : Option Value → jmM → Prop} : AW d 201 0 [some (.ref x), l1, l2, l3] [] m Q ↔ AW d 201 1 [some (.ref x), l1, l2, l3] [.ref x] m Q := A_aload_n hB_X12_number dX12_number_0 rfl
theorem dX12_number_1 : decode cX12_number 1 = .ok (.invokevirtual 114, 3) := by decide +kernel
theorem tX12_number_1 {d : Nat} {l0 l1 l2 l3 : Option Value} {a : Nat} {m : jmM} {Q : Option Value → jmM → Prop} : AW d 201 1 [l0, l1, l2, l3] [.ref a] m Q ↔ (mS m a).1 = 12 ∧ CC d 195 [.ref a] m (jK d 201 4 [l0, l1, l2, l3] [] Q) := A_callV hB_X12_number dX12_number_1 hO_X12_number fS_12_114 ⟨Nat.le_of_ble_eq_true rfl, Nat.le_of_ble_eq_true rfl⟩ rfl rfl rfl
theorem dX12_number_4 : decode cX12_number 4 = .ok (.pop, 1) := by decide +kernel
theorem tX12_number_4 {d : Nat} {l0 l1 l2 l3 : Option Value} {x : Int32} {m : jmM} {Q : Option Value → jmM → Prop} : AW d 201 4 [l0, l1, l2, l3] [.int x] m Q ↔ AW d 201 5 [l0, l1, l2, l3] [] m Q := A_pop_i hB_X12_number dX12_number_4
theorem dX12_number_5 : decode cX12_number 5 = .ok (.aload_n 0, 1) := by decide +kernel
theorem tX12_number_5 {d : Nat} {l1 l2 l3 : Option Value} {x : Nat} {m : jmM} {Q : Option Value → jmM → Prop} : AW d 201 5 [some (.ref x), l1, l2, l3] [] m Q ↔ AW d 201 6 [some (.ref x), l1, l2, l3] [.ref x] m Q := A_aload_n hB_X12_number dX12_number_5 rfl
theorem dX12_number_6 : decode cX12_number 6 = .ok (.aload_n 0, 1) := by decide +kernel
theorem tX12_number_6 {d : Nat} {l1 l2 l3 : Option Value} {v0 : Value} {x : Nat} {m : jmM} {Q : Option Value → jmM → Prop} : AW d 201 6 [some (.ref x), l1, l2, l3] [v0] m Q ↔ AW d 201 7 [some (.ref x), l1, l2, l3] [.ref x, v0] m Q := A_aload_n hB_X12_number dX12_number_6 rfl
theorem dX12_number_7 : decode cX12_number 7 = .ok (.getfield 111, 3) := by decide +kernel
theorem tX12_number_7 {d : Nat} {l0 l1 l2 l3 : Option Value} {v1 : Value} {a : Nat} {m : jmM} {Q : Option Value → jmM → Prop} : AW d 201 7 [l0, l1, l2, l3] [.ref a, v1] m Q ↔ (mS m a).1 = 12 ∧ AW d 201 10 [l0, l1, l2, l3] [.int (mI m a 11), v1] m Q := A_getfield (f := fun m a => .int (mI m a 11)) hB_X12_number dX12_number_7 hO_X12_number fF_12_111 rfl
theorem dX12_number_10 : decode cX12_number 10 = .ok (.invokevirtual 129, 3) := by decide +kernel
theorem tX12_number_10 {d : Nat} {l0 l1 l2 l3 : Option Value} {y0 : Value} {a : Nat} {m : jmM} {Q : Option Value → jmM → Prop} : AW d 201 10 [l0, l1, l2, l3] [y0, .ref a] m Q ↔ (mS m a).1 = 12 ∧ CC d 196 [.ref a, y0] m (jK d 201 13 [l0, l1, l2, l3] [] Q) := A_callV hB_X12_number dX12_number_10 hO_X12_number fS_12_129 ⟨Nat.le_of_ble_eq_true rfl, Nat.le_of_ble_eq_true rfl⟩ rfl rfl rfl
theorem dX12_number_13 : decode cX12_number 13 = .ok (.ifCond .ne 13, 3) := by decide +kernel
theorem tX12_number_13 {d : Nat} {l0 l1 l2 l3 : Option Value} {x : Int32} {m : jmM} {Q : Option Value → jmM → Prop} : AW d 201 13 [l0, l1, l2, l3] [.int x] m Q ↔ if x = 0 then AW d 201 16 [l0, l1, l2, l3] [] m Q else AW d 201 26 [l0, l1, l2, l3] [] m Q := A_if_ne hB_X12_number dX12_number_13 (by decide)
theorem dX12_number_16 : decode cX12_number 16 = .ok (.aload_n 0, 1) := by decide +kernel
theorem tX12_number_16 {d : Nat} {l1 l2 l3 : Option Value} {x : Nat} {m : jmM} {Q : Option Value → jmM → Prop} : AW d 201 16 [some (.ref x), l1, l2, l3] [] m Q ↔ AW d 201 17 [some (.ref x), l1, l2, l3] [.ref x] m Q := A_aload_n hB_X12_number dX12_number_16 rfl
theorem dX12_number_17 : decode cX12_number 17 = .ok (.iconst 0, 1) := by decide +kernel
theorem tX12_number_17 {d : Nat} {l0 l1 l2 l3 : Option Value} {v0 : Value} {m : jmM} {Q : Option Value → jmM → Prop} : AW d 201 17 [l0, l1, l2, l3] [v0] m Q ↔ AW d 201 18 [l0, l1, l2, l3] [.int 0, v0] m Q := A_iconst hB_X12_number dX12_number_17 (by decide)
theorem dX12_number_18 : decode cX12_number 18 = .ok (.aload_n 0, 1) := by decide +kernel
theorem tX12_number_18 {d : Nat} {l1 l2 l3 : Option Value} {v0 v1 : Value} {x : Nat} {m : jmM} {Q : Option Value → jmM → Prop} : AW d 201 18 [some (.ref x), l1, l2, l3] [v0, v1] m Q ↔ AW d 201 19 [some (.ref x), l1, l2, l3] [.ref x, v0, v1] m Q := A_aload_n hB_X12_number dX12_number_18 rfl
theorem dX12_number_19 : decode cX12_number 19 = .ok (.getfield 111, 3) := by decide +kernel
theorem tX12_number_19 {d : Nat} {l0 l1 l2 l3 : Option Value} {v1 v2 : Value} {a : Nat} {m : jmM} {Q : Option Value → jmM → Prop} : AW d 201 19 [l0, l1, l2, l3] [.ref a, v1, v2] m Q ↔ (mS m a).1 = 12 ∧ AW d 201 22 [l0, l1, l2, l3] [.int (mI m a 11), v1, v2] m Q := A_getfield (f := fun m a => .int (mI m a 11)) hB_X12_number dX12_number_19 hO_X12_number fF_12_111 rfl
theorem dX12_number_22 : decode cX12_number 22 = .ok (.invokevirtual 132, 3) := by decide +kernel
theorem tX12_number_22 {d : Nat} {l0 l1 l2 l3 : Option Value} {y0 y1 : Value} {a : Nat} {m : jmM} {Q : Option Value → jmM → Prop} : AW d 201 22 [l0, l1, l2, l3] [y0, y1, .ref a] m Q ↔ (mS m a).1 = 12 ∧ CC d 194 [.ref a, y1, y0] m (jK d 201 25 [l0, l1, l2, l3] [] Q) := A_callV hB_X12_number dX12_number_22 hO_X12_number fS_12_132 ⟨Nat.le_of_ble_eq_true rfl, Nat.le_of_ble_eq_true rfl⟩ rfl rfl rfl
theorem dX12_number_25 : decode cX12_number 25 = .ok (.ireturn, 1) := by decide +kernel
theorem tX12_number_25 {d : Nat} {l0 l1 l2 l3 : Option Value} {x : Int32} {m : jmM} {Q : Option Value → jmM → Prop} : AW d 201 25 [l0, l1, l2, l3] [.int x] m Q ↔ jBool x ∧ Q (some (.int x)) m := A_zreturn hB_X12_number dX12_number_25 hR_X12_number
theorem dX12_number_26 : decode cX12_number 26 = .ok (.aload_n 0, 1) := by decide +kernel
theorem tX12_number_26 {d : Nat} {l1 l2 l3 : Option Value} {x : Nat} {m : jmM} {Q : Option Value → jmM → Prop} : AW d 201 26 [some (.ref x), l1, l2, l3] [] m Q ↔ AW d 201 27 [some (.ref x), l1, l2, l3] [.ref x] m Q := A_aload_n hB_X12_number dX12_number_26 rfl
theorem dX12_number_27 : decode cX12_number 27 = .ok (.getfield 111, 3) := by decide +kernel
theorem tX12_number_27 {d : Nat} {l0 l1 l2 l3 : Option Value} {a : Nat} {m : jmM} {Q : Option Value → jmM → Prop} : AW d 201 27 [l0, l1, l2, l3] [.ref a] m Q ↔ (mS m a).1 = 12 ∧ AW d 201 30 [l0, l1, l2, l3] [.int (mI m a 11)] m Q := A_getfield (f := fun m a => .int (mI m a 11)) hB_X12_number dX12_number_27 hO_X12_number fF_12_111 rfl
theorem dX12_number_30 : decode cX12_number 30 = .ok (.istore_n 2, 1) := by decide +kernel
theorem tX12_number_30 {d : Nat} {l0 l1 l2 l3 : Option Value} {x : Int32} {m : jmM} {Q : Option Value → jmM → Prop} : AW d 201 30 [l0, l1, l2, l3] [.int x] m Q ↔ AW d 201 31 [l0, jc1 l1, some (.int x), l3] [] m Q := A_istore_n hB_X12_number dX12_number_30 (Nat.le_of_ble_eq_true rfl) rfl
theorem dX12_number_31 : decode cX12_number 31 = .ok (.iconst 0, 1) := by decide +kernel
theorem tX12_number_31 {d : Nat} {l0 l1 l2 l3 : Option Value} {m : jmM} {Q : Option Value → jmM → Prop} : AW d 201 31 [l0, l1, l2, l3] [] m Q ↔ AW d 201 32 [l0, l1, l2, l3] [.int 0] m Q := A_iconst hB_X12_number dX12_number_31 (by decide)
theorem dX12_number_32 : decode cX12_number 32 = .ok (.istore_n 3, 1) := by decide +kernel
theorem tX12_number_32 {d : Nat} {l0 l1 l2 l3 : Option Value} {x : Int32} {m : jmM} {Q : Option Value → jmM → Prop} : AW d 201 32 [l0, l1, l2, l3] [.int x] m Q ↔ AW d 201 33 [l0, l1, jc1 l2, some (.int x)] [] m Q := A_istore_n hB_X12_number dX12_number_32 (Nat.le_of_ble_eq_true rfl) rfl
theorem dX12_number_33 : decode cX12_number 33 = .ok (.aload_n 0, 1) := by decide +kernel
theorem tX12_number_33 {d : Nat} {l1 l2 l3 : Option Value} {x : Nat} {m : jmM} {Q : Option Value → jmM → Prop} : AW d 201 33 [some (.ref x), l1, l2, l3] [] m Q ↔ AW d 201 34 [some (.ref x), l1, l2, l3] [.ref x] m Q := A_aload_n hB_X12_number dX12_number_33 rfl
theorem dX12_number_34 : decode cX12_number 34 = .ok (.aload_n 0, 1) := by decide +kernel
theorem tX12_number_34 {d : Nat} {l1 l2 l3 : Option Value} {v0 : Value} {x : Nat} {m : jmM} {Q : Option Value → jmM → Prop} : AW d 201 34 [some (.ref x), l1, l2, l3] [v0] m Q ↔ AW d 201 35 [some (.ref x), l1, l2, l3] [.ref x, v0] m Q := A_aload_n hB_X12_number dX12_number_34 rfl
theorem dX12_number_35 : decode cX12_number 35 = .ok (.getfield 111, 3) := by decide +kernel
theorem tX12_number_35 {d : Nat} {l0 l1 l2 l3 : Option Value} {v1 : Value} {a : Nat} {m : jmM} {Q : Option Value → jmM → Prop} : AW d 201 35 [l0, l1, l2, l3] [.ref a, v1] m Q ↔ (mS m a).1 = 12 ∧ AW d 201 38 [l0, l1, l2, l3] [.int (mI m a 11), v1] m Q := A_getfield (f := fun m a => .int (mI m a 11)) hB_X12_number dX12_number_35 hO_X12_number fF_12_111 rfl
theorem dX12_number_38 : decode cX12_number 38 = .ok (.invokevirtual 129, 3) := by decide +kernel
theorem tX12_number_38 {d : Nat} {l0 l1 l2 l3 : Option Value} {y0 : Value} {a : Nat} {m : jmM} {Q : Option Value → jmM → Prop} : AW d 201 38 [l0, l1, l2, l3] [y0, .ref a] m Q ↔ (mS m a).1 = 12 ∧ CC d 196 [.ref a, y0] m (jK d 201 41 [l0, l1, l2, l3] [] Q) := A_callV hB_X12_number dX12_number_38 hO_X12_number fS_12_129 ⟨Nat.le_of_ble_eq_true rfl, Nat.le_of_ble_eq_true rfl⟩ rfl rfl rfl
theorem dX12_number_41 : decode cX12_number 41 = .ok (.ifCond .eq 44, 3) := by decide +kernel
theorem tX12_number_41 {d : Nat} {l0 l1 l2 l3 : Option Value} {x : Int32} {m : jmM} {Q : Option Value → jmM → Prop} : AW d 201 41 [l0, l1, l2, l3] [.int x] m Q ↔ if x = 0 then AW d 201 85 [l0, l1, l2, l3] [] m Q else AW d 201 44 [l0, l1, l2, l3] [] m Q := A_if_eq hB_X12_number dX12_number_41 (by decide)
theorem dX12_number_44 : decode cX12_number 44 = .ok (.aload_n 0, 1) := by decide +kernel
theorem tX12_number_44 {d : Nat} {l1 l2 l3 : Option Value} {x : Nat} {m : jmM} {Q : Option Value → jmM → Prop} : AW d 201 44 [some (.ref x), l1, l2, l3] [] m Q ↔ AW d 201 45 [some (.ref x), l1, l2, l3] [.ref x] m Q := A_aload_n hB_X12_number dX12_number_44 rfl
theorem dX12_number_45 : decode cX12_number 45 = .ok (.getfield 111, 3) := by decide +kernel
theorem tX12_number_45 {d : Nat} {l0 l1 l2 l3 : Option Value} {a : Nat} {m : jmM} {Q : Option Value → jmM → Prop} : AW d 201 45 [l0, l1, l2, l3] [.ref a] m Q ↔ (mS m a).1 = 12 ∧ AW d 201 48 [l0, l1, l2, l3] [.int (mI m a 11)] m Q := A_getfield (f := fun m a => .int (mI m a 11)) hB_X12_number dX12_number_45 hO_X12_number fF_12_111 rfl
theorem dX12_number_48 : decode cX12_number 48 = .ok (.iload_n 2, 1) := by decide +kernel
theorem tX12_number_48 {d : Nat} {l0 l1 l3 : Option Value} {v0 : Value} {x : Int32} {m : jmM} {Q : Option Value → jmM → Prop} : AW d 201 48 [l0, l1, some (.int x), l3] [v0] m Q ↔ AW d 201 49 [l0, l1, some (.int x), l3] [.int x, v0] m Q := A_iload_n hB_X12_number dX12_number_48 rfl
theorem dX12_number_49 : decode cX12_number 49 = .ok (.isub, 1) := by decide +kernel
theorem tX12_number_49 {d : Nat} {l0 l1 l2 l3 : Option Value} {x y : Int32} {m : jmM} {Q : Option Value → jmM → Prop} : AW d 201 49 [l0, l1, l2, l3] [.int y, .int x] m Q ↔ AW d 201 50 [l0, l1, l2, l3] [.int (x - y)] m Q := A_isub hB_X12_number dX12_number_49
theorem dX12_number_50 : decode cX12_number 50 = .ok (.iconst 5, 1) := by decide +kernel
theorem tX12_number_50 {d : Nat} {l0 l1 l2 l3 : Option Value} {v0 : Value} {m : jmM} {Q : Option Value → jmM → Prop} : AW d 201 50 [l0, l1, l2, l3] [v0] m Q ↔ AW d 201 51 [l0, l1, l2, l3] [.int 5, v0] m Q := A_iconst hB_X12_number dX12_number_50 (by decide)
theorem dX12_number_51 : decode cX12_number 51 = .ok (.if_icmp .ge 21, 3) := by decide +kernel
theorem tX12_number_51 {d : Nat} {l0 l1 l2 l3 : Option Value} {x y : Int32} {m : jmM} {Q : Option Value → jmM → Prop} : AW d 201 51 [l0, l1, l2, l3] [.int y, .int x] m Q ↔ if y ≤ x then AW d 201 72 [l0, l1, l2, l3] [] m Q else AW d 201 54 [l0, l1, l2, l3] [] m Q := A_icmp_ge hB_X12_number dX12_number_51 (by decide)
theorem dX12_number_54 : decode cX12_number 54 = .ok (.bipush 10, 2) := by decide +kernel
theorem tX12_number_54 {d : Nat} {l0 l1 l2 l3 : Option Value} {m : jmM} {Q : Option Value → jmM → Prop} : AW d 201 54 [l0, l1, l2, l3] [] m Q ↔ AW d 201 56 [l0, l1, l2, l3] [.int 10] m Q := A_bipush hB_X12_number dX12_number_54 rfl
theorem dX12_number_56 : decode cX12_number 56 = .ok (.iload_n 3, 1) := by decide +kernel
theorem tX12_number_56 {d : Nat} {l0 l1 l2 : Option Value} {v0 : Value} {x : Int32} {m : jmM} {Q : Option Value → jmM → Prop} : AW d 201 56 [l0, l1, l2, some (.int x)] [v0] m Q ↔ AW d 201 57 [l0, l1, l2, some (.int x)] [.int x, v0] m Q := A_iload_n hB_X12_number dX12_number_56 rfl
theorem dX12_number_57 : decode cX12_number 57 = .ok (.imul, 1) := by decide +kernel
theorem tX12_number_57 {d : Nat} {l0 l1 l2 l3 : Option Value} {x y : Int32} {m : jmM} {Q : Option Value → jmM → Prop} : AW d 201 57 [l0, l1, l2, l3] [.int y, .int x] m Q ↔ AW d 201 58 [l0, l1, l2, l3] [.int (x * y)] m Q := A_imul hB_X12_number dX12_number_57
theorem dX12_number_58 : decode cX12_number 58 = .ok (.aload_n 0, 1) := by decide +kernel
theorem tX12_number_58 {d : Nat} {l1 l2 l3 : Option Value} {v0 : Value} {x : Nat} {m : jmM} {Q : Option Value → jmM → Prop} : AW d 201 58 [some (.ref x), l1, l2, l3] [v0] m Q ↔ AW d 201 59 [some (.ref x), l1, l2, l3] [.ref x, v0] m Q := A_aload_n hB_X12_number dX12_number_58 rfl
theorem dX12_number_59 : decode cX12_number 59 = .ok (.getfield 7, 3) := by decide +kernel
theorem tX12_number_59 {d : Nat} {l0 l1 l2 l3 : Option Value} {v1 : Value} {a : Nat} {m : jmM} {Q : Option Value → jmM → Prop} : AW d 201 59 [l0, l1, l2, l3] [.ref a, v1] m Q ↔ (mS m a).1 = 12 ∧ AW d 201 62 [l0, l1, l2, l3] [va_rf (mR m a 0), v1] m Q := A_getfield (f := fun m a => va_rf (mR m a 0)) hB_X12_number dX12_number_59 hO_X12_number fF_12_7 rfl
theorem dX12_number_62 : decode cX12_number 62 = .ok (.aload_n 0, 1) := by decide +kernel
theorem tX12_number_62 {d : Nat} {l1 l2 l3 : Option Value} {v0 v1 : Value} {x : Nat} {m : jmM} {Q : Option Value → jmM → Prop} : AW d 201 62 [some (.ref x), l1, l2, l3] [v0, v1] m Q ↔ AW d 201 63 [some (.ref x), l1, l2, l3] [.ref x, v0, v1] m Q := A_aload_n hB_X12_number dX12_number_62 rfl
theorem dX12_number_63 : decode cX12_number 63 = .ok (.getfield 111, 3) := by decide +kernel
theorem tX12_number_63 {d : Nat} {l0 l1 l2 l3 : Option Value} {v1 v2 : Value} {a : Nat} {m : jmM} {Q : Option Value → jmM → Prop} : AW d 201 63 [l0, l1, l2, l3] [.ref a, v1, v2] m Q ↔ (mS m a).1 = 12 ∧ AW d 201 66 [l0, l1, l2, l3] [.int (mI m a 11), v1, v2] m Q := A_getfield (f := fun m a => .int (mI m a 11)) hB_X12_number dX12_number_63 hO_X12_number fF_12_111 rfl
theorem dX12_number_66 : decode cX12_number 66 = .ok (.baload, 1) := by decide +kernel
theorem tX12_number_66 {d : Nat} {l0 l1 l2 l3 : Option Value} {v2 : Value} {i : Int32} {a : Nat} {m : jmM} {Q : Option Value → jmM → Prop} : AW d 201 66 [l0, l1, l2, l3] [.int i, .ref a, v2] m Q ↔ (((mS m a).1 = 22 ∨ (mS m a).1 = 23) ∧ jIx i (mS m a).2) ∧ AW d 201 67 [l0, l1, l2, l3] [.int (mI m a (jx i)), v2] m Q := A_baload hB_X12_number dX12_number_66
theorem dX12_number_67 : decode cX12_number 67 = .ok (.iadd, 1) := by decide +kernel
theorem tX12_number_67 {d : Nat} {l0 l1 l2 l3 : Option Value} {x y : Int32} {m : jmM} {Q : Option Value → jmM → Prop} : AW d 201 67 [l0, l1, l2, l3] [.int y, .int x] m Q ↔ AW d 201 68 [l0, l1, l2, l3] [.int (x + y)] m Q := A_iadd hB_X12_number dX12_number_67
theorem dX12_number_68 : decode cX12_number 68 = .ok (.bipush 48, 2) := by decide +kernel
theorem tX12_number_68 {d : Nat} {l0 l1 l2 l3 : Option Value} {v0 : Value} {m : jmM} {Q : Option Value → jmM → Prop} : AW d 201 68 [l0, l1, l2, l3] [v0] m Q ↔ AW d 201 70 [l0, l1, l2, l3] [.int 48, v0] m Q := A_bipush hB_X12_number dX12_number_68 rfl
theorem dX12_number_70 : decode cX12_number 70 = .ok (.isub, 1) := by decide +kernel
theorem tX12_number_70 {d : Nat} {l0 l1 l2 l3 : Option Value} {x y : Int32} {m : jmM} {Q : Option Value → jmM → Prop} : AW d 201 70 [l0, l1, l2, l3] [.int y, .int x] m Q ↔ AW d 201 71 [l0, l1, l2, l3] [.int (x - y)] m Q := A_isub hB_X12_number dX12_number_70
theorem dX12_number_71 : decode cX12_number 71 = .ok (.istore_n 3, 1) := by decide +kernel
theorem tX12_number_71 {d : Nat} {l0 l1 l2 l3 : Option Value} {x : Int32} {m : jmM} {Q : Option Value → jmM → Prop} : AW d 201 71 [l0, l1, l2, l3] [.int x] m Q ↔ AW d 201 72 [l0, l1, jc1 l2, some (.int x)] [] m Q := A_istore_n hB_X12_number dX12_number_71 (Nat.le_of_ble_eq_true rfl) rfl
theorem dX12_number_72 : decode cX12_number 72 = .ok (.aload_n 0, 1) := by decide +kernel
theorem tX12_number_72 {d : Nat} {l1 l2 l3 : Option Value} {x : Nat} {m : jmM} {Q : Option Value → jmM → Prop} : AW d 201 72 [some (.ref x), l1, l2, l3] [] m Q ↔ AW d 201 73 [some (.ref x), l1, l2, l3] [.ref x] m Q := A_aload_n hB_X12_number dX12_number_72 rfl
theorem dX12_number_73 : decode cX12_number 73 = .ok (.dup, 1) := by decide +kernel
theorem tX12_number_73 {d : Nat} {l0 l1 l2 l3 : Option Value} {x : Nat} {m : jmM} {Q : Option Value → jmM → Prop} : AW d 201 73 [l0, l1, l2, l3] [.ref x] m Q ↔ AW d 201 74 [l0, l1, l2, l3] [.ref x, .ref x] m Q := A_dup_a hB_X12_number dX12_number_73
theorem dX12_number_74 : decode cX12_number 74 = .ok (.getfield 111, 3) := by decide +kernel
theorem tX12_number_74 {d : Nat} {l0 l1 l2 l3 : Option Value} {v1 : Value} {a : Nat} {m : jmM} {Q : Option Value → jmM → Prop} : AW d 201 74 [l0, l1, l2, l3] [.ref a, v1] m Q ↔ (mS m a).1 = 12 ∧ AW d 201 77 [l0, l1, l2, l3] [.int (mI m a 11), v1] m Q := A_getfield (f := fun m a => .int (mI m a 11)) hB_X12_number dX12_number_74 hO_X12_number fF_12_111 rfl
theorem dX12_number_77 : decode cX12_number 77 = .ok (.iconst 1, 1) := by decide +kernel
theorem tX12_number_77 {d : Nat} {l0 l1 l2 l3 : Option Value} {v0 v1 : Value} {m : jmM} {Q : Option Value → jmM → Prop} : AW d 201 77 [l0, l1, l2, l3] [v0, v1] m Q ↔ AW d 201 78 [l0, l1, l2, l3] [.int 1, v0, v1] m Q := A_iconst hB_X12_number dX12_number_77 (by decide)
theorem dX12_number_78 : decode cX12_number 78 = .ok (.iadd, 1) := by decide +kernel
theorem tX12_number_78 {d : Nat} {l0 l1 l2 l3 : Option Value} {v2 : Value} {x y : Int32} {m : jmM} {Q : Option Value → jmM → Prop} : AW d 201 78 [l0, l1, l2, l3] [.int y, .int x, v2] m Q ↔ AW d 201 79 [l0, l1, l2, l3] [.int (x + y), v2] m Q := A_iadd hB_X12_number dX12_number_78
theorem dX12_number_79 : decode cX12_number 79 = .ok (.putfield 111, 3) := by decide +kernel
theorem tX12_number_79 {d : Nat} {l0 l1 l2 l3 : Option Value} {x : Int32} {a : Nat} {m : jmM} {Q : Option Value → jmM → Prop} : AW d 201 79 [l0, l1, l2, l3] [.int x, .ref a] m Q ↔ (mS m a).1 = 12 ∧ AW d 201 82 [l0, l1, l2, l3] [] (cI m a (jup (mI m a) 11 x)) Q := A_putI hB_X12_number dX12_number_79 hO_X12_number fF_12_111 rfl (fun h => Bool.noConfusion h)
theorem dX12_number_82 : decode cX12_number 82 = .ok (.goto (-49), 3) := by decide +kernel
theorem tX12_number_82 {d : Nat} {l0 l1 l2 l3 : Option Value} {m : jmM} {Q : Option Value → jmM → Prop} : AW d 201 82 [l0, l1, l2, l3] [] m Q ↔ AW d 201 33 [l0, l1, l2, l3] [] m Q := A_goto hB_X12_number dX12_number_82 (by decide)
theorem dX12_number_85 : decode cX12_number 85 = .ok (.aload_n 0, 1) := by decide +kernel
theorem tX12_number_85 {d : Nat} {l1 l2 l3 : Option Value} {x : Nat} {m : jmM} {Q : Option Value → jmM → Prop} : AW d 201 85 [some (.ref x), l1, l2, l3] [] m Q ↔ AW d 201 86 [some (.ref x), l1, l2, l3] [.ref x] m Q := A_aload_n hB_X12_number dX12_number_85 rfl
theorem dX12_number_86 : decode cX12_number 86 = .ok (.iload_n 3, 1) := by decide +kernel
theorem tX12_number_86 {d : Nat} {l0 l1 l2 : Option Value} {v0 : Value} {x : Int32} {m : jmM} {Q : Option Value → jmM → Prop} : AW d 201 86 [l0, l1, l2, some (.int x)] [v0] m Q ↔ AW d 201 87 [l0, l1, l2, some (.int x)] [.int x, v0] m Q := A_iload_n hB_X12_number dX12_number_86 rfl
theorem dX12_number_87 : decode cX12_number 87 = .ok (.putfield 136, 3) := by decide +kernel
theorem tX12_number_87 {d : Nat} {l0 l1 l2 l3 : Option Value} {x : Int32} {a : Nat} {m : jmM} {Q : Option Value → jmM → Prop} : AW d 201 87 [l0, l1, l2, l3] [.int x, .ref a] m Q ↔ (mS m a).1 = 12 ∧ AW d 201 90 [l0, l1, l2, l3] [] (cI m a (jup (mI m a) 13 x)) Q := A_putI hB_X12_number dX12_number_87 hO_X12_number fF_12_136 rfl (fun h => Bool.noConfusion h)
theorem dX12_number_90 : decode cX12_number 90 = .ok (.aload_n 0, 1) := by decide +kernel
theorem tX12_number_90 {d : Nat} {l1 l2 l3 : Option Value} {x : Nat} {m : jmM} {Q : Option Value → jmM → Prop} : AW d 201 90 [some (.ref x), l1, l2, l3] [] m Q ↔ AW d 201 91 [some (.ref x), l1, l2, l3] [.ref x] m Q := A_aload_n hB_X12_number dX12_number_90 rfl
theorem dX12_number_91 : decode cX12_number 91 = .ok (.getfield 111, 3) := by decide +kernel
theorem tX12_number_91 {d : Nat} {l0 l1 l2 l3 : Option Value} {a : Nat} {m : jmM} {Q : Option Value → jmM → Prop} : AW d 201 91 [l0, l1, l2, l3] [.ref a] m Q ↔ (mS m a).1 = 12 ∧ AW d 201 94 [l0, l1, l2, l3] [.int (mI m a 11)] m Q := A_getfield (f := fun m a => .int (mI m a 11)) hB_X12_number dX12_number_91 hO_X12_number fF_12_111 rfl
theorem dX12_number_94 : decode cX12_number 94 = .ok (.iload_n 2, 1) := by decide +kernel
theorem tX12_number_94 {d : Nat} {l0 l1 l3 : Option Value} {v0 : Value} {x : Int32} {m : jmM} {Q : Option Value → jmM → Prop} : AW d 201 94 [l0, l1, some (.int x), l3] [v0] m Q ↔ AW d 201 95 [l0, l1, some (.int x), l3] [.int x, v0] m Q := A_iload_n hB_X12_number dX12_number_94 rfl
theorem dX12_number_95 : decode cX12_number 95 = .ok (.isub, 1) := by decide +kernel
theorem tX12_number_95 {d : Nat} {l0 l1 l2 l3 : Option Value} {x y : Int32} {m : jmM} {Q : Option Value → jmM → Prop} : AW d 201 95 [l0, l1, l2, l3] [.int y, .int x] m Q ↔ AW d 201 96 [l0, l1, l2, l3] [.int (x - y)] m Q := A_isub hB_X12_number dX12_number_95
theorem dX12_number_96 : decode cX12_number 96 = .ok (.iconst 5, 1) := by decide +kernel
theorem tX12_number_96 {d : Nat} {l0 l1 l2 l3 : Option Value} {v0 : Value} {m : jmM} {Q : Option Value → jmM → Prop} : AW d 201 96 [l0, l1, l2, l3] [v0] m Q ↔ AW d 201 97 [l0, l1, l2, l3] [.int 5, v0] m Q := A_iconst hB_X12_number dX12_number_96 (by decide)
theorem dX12_number_97 : decode cX12_number 97 = .ok (.if_icmp .gt 8, 3) := by decide +kernel
theorem tX12_number_97 {d : Nat} {l0 l1 l2 l3 : Option Value} {x y : Int32} {m : jmM} {Q : Option Value → jmM → Prop} : AW d 201 97 [l0, l1, l2, l3] [.int y, .int x] m Q ↔ if y < x then AW d 201 105 [l0, l1, l2, l3] [] m Q else AW d 201 100 [l0, l1, l2, l3] [] m Q := A_icmp_gt hB_X12_number dX12_number_97 (by decide)
theorem dX12_number_100 : decode cX12_number 100 = .ok (.iload_n 3, 1) := by decide +kernel
theorem tX12_number_100 {d : Nat} {l0 l1 l2 : Option Value} {x : Int32} {m : jmM} {Q : Option Value → jmM → Prop} : AW d 201 100 [l0, l1, l2, some (.int x)] [] m Q ↔ AW d 201 101 [l0, l1, l2, some (.int x)] [.int x] m Q := A_iload_n hB_X12_number dX12_number_100 rfl
theorem dX12_number_101 : decode cX12_number 101 = .ok (.iload_n 1, 1) := by decide +kernel
theorem tX12_number_101 {d : Nat} {l0 l2 l3 : Option Value} {v0 : Value} {x : Int32} {m : jmM} {Q : Option Value → jmM → Prop} : AW d 201 101 [l0, some (.int x), l2, l3] [v0] m Q ↔ AW d 201 102 [l0, some (.int x), l2, l3] [.int x, v0] m Q := A_iload_n hB_X12_number dX12_number_101 rfl
theorem dX12_number_102 : decode cX12_number 102 = .ok (.if_icmp .le 12, 3) := by decide +kernel
theorem tX12_number_102 {d : Nat} {l0 l1 l2 l3 : Option Value} {x y : Int32} {m : jmM} {Q : Option Value → jmM → Prop} : AW d 201 102 [l0, l1, l2, l3] [.int y, .int x] m Q ↔ if x ≤ y then AW d 201 114 [l0, l1, l2, l3] [] m Q else AW d 201 105 [l0, l1, l2, l3] [] m Q := A_icmp_le hB_X12_number dX12_number_102 (by decide)
theorem dX12_number_105 : decode cX12_number 105 = .ok (.aload_n 0, 1) := by decide +kernel
theorem tX12_number_105 {d : Nat} {l1 l2 l3 : Option Value} {x : Nat} {m : jmM} {Q : Option Value → jmM → Prop} : AW d 201 105 [some (.ref x), l1, l2, l3] [] m Q ↔ AW d 201 106 [some (.ref x), l1, l2, l3] [.ref x] m Q := A_aload_n hB_X12_number dX12_number_105 rfl
theorem dX12_number_106 : decode cX12_number 106 = .ok (.iconst 1, 1) := by decide +kernel
theorem tX12_number_106 {d : Nat} {l0 l1 l2 l3 : Option Value} {v0 : Value} {m : jmM} {Q : Option Value → jmM → Prop} : AW d 201 106 [l0, l1, l2, l3] [v0] m Q ↔ AW d 201 107 [l0, l1, l2, l3] [.int 1, v0] m Q := A_iconst hB_X12_number dX12_number_106 (by decide)
theorem dX12_number_107 : decode cX12_number 107 = .ok (.iload_n 2, 1) := by decide +kernel
theorem tX12_number_107 {d : Nat} {l0 l1 l3 : Option Value} {v0 v1 : Value} {x : Int32} {m : jmM} {Q : Option Value → jmM → Prop} : AW d 201 107 [l0, l1, some (.int x), l3] [v0, v1] m Q ↔ AW d 201 108 [l0, l1, some (.int x), l3] [.int x, v0, v1] m Q := A_iload_n hB_X12_number dX12_number_107 rfl
theorem dX12_number_108 : decode cX12_number 108 = .ok (.invokevirtual 132, 3) := by decide +kernel
theorem tX12_number_108 {d : Nat} {l0 l1 l2 l3 : Option Value} {y0 y1 : Value} {a : Nat} {m : jmM} {Q : Option Value → jmM → Prop} : AW d 201 108 [l0, l1, l2, l3] [y0, y1, .ref a] m Q ↔ (mS m a).1 = 12 ∧ CC d 194 [.ref a, y1, y0] m (jK d 201 111 [l0, l1, l2, l3] [] Q) := A_callV hB_X12_number dX12_number_108 hO_X12_number fS_12_132 ⟨Nat.le_of_ble_eq_true rfl, Nat.le_of_ble_eq_true rfl⟩ rfl rfl rfl
theorem dX12_number_111 : decode cX12_number 111 = .ok (.ifCond .eq 7, 3) := by decide +kernel
theorem tX12_number_111 {d : Nat} {l0 l1 l2 l3 : Option Value} {x : Int32} {m : jmM} {Q : Option Value → jmM → Prop} : AW d 201 111 [l0, l1, l2, l3] [.int x] m Q ↔ if x = 0 then AW d 201 118 [l0, l1, l2, l3] [] m Q else AW d 201 114 [l0, l1, l2, l3] [] m Q := A_if_eq hB_X12_number dX12_number_111 (by decide)
theorem dX12_number_114 : decode cX12_number 114 = .ok (.iconst 1, 1) := by decide +kernel
theorem tX12_number_114 {d : Nat} {l0 l1 l2 l3 : Option Value} {m : jmM} {Q : Option Value → jmM → Prop} : AW d 201 114 [l0, l1, l2, l3] [] m Q ↔ AW d 201 115 [l0, l1, l2, l3] [.int 1] m Q := A_iconst hB_X12_number dX12_number_114 (by decide)
theorem dX12_number_115 : decode cX12_number 115 = .ok (.goto 4, 3) := by decide +kernel
theorem tX12_number_115 {d : Nat} {l0 l1 l2 l3 : Option Value} {v0 : Value} {m : jmM} {Q : Option Value → jmM → Prop} : AW d 201 115 [l0, l1, l2, l3] [v0] m Q ↔ AW d 201 119 [l0, l1, l2, l3] [v0] m Q := A_goto hB_X12_number dX12_number_115 (by decide)
theorem dX12_number_118 : decode cX12_number 118 = .ok (.iconst 0, 1) := by decide +kernel
theorem tX12_number_118 {d : Nat} {l0 l1 l2 l3 : Option Value} {m : jmM} {Q : Option Value → jmM → Prop} : AW d 201 118 [l0, l1, l2, l3] [] m Q ↔ AW d 201 119 [l0, l1, l2, l3] [.int 0] m Q := A_iconst hB_X12_number dX12_number_118 (by decide)
theorem dX12_number_119 : decode cX12_number 119 = .ok (.ireturn, 1) := by decide +kernel
theorem tX12_number_119 {d : Nat} {l0 l1 l2 l3 : Option Value} {x : Int32} {m : jmM} {Q : Option Value → jmM → Prop} : AW d 201 119 [l0, l1, l2, l3] [.int x] m Q ↔ jBool x ∧ Q (some (.int x)) m := A_zreturn hB_X12_number dX12_number_119 hR_X12_number
theorem hB_X12_wordHere : jB 202 = cX12_wordHere := rfl
theorem hO_X12_wordHere : jO 202 = 12 := rfl
theorem hR_X12_wordHere : jRt 202 = (some .int) := rfl
theorem nX12_wordHere (d : Nat) (x0 : Nat) (m : jmM) (Q : Option Value → jmM → Prop) : CC (d + 1) 202 [.ref x0] m Q ↔ AW d 202 0 [some (.ref x0)] [] m Q := CC_body (Nat.le_of_ble_eq_true rfl)
theorem dX12_wordHere_0 : decode cX12_wordHere 0 = .ok (.aload_n 0, 1) := by decide +kernel
theorem tX12_wordHere_0 {d : Nat} {x : Nat} {m : jmM} {Q : Option Value → jmM → Prop} : AW d 202 0 [some (.ref x)] [] m Q ↔ AW d 202 1 [some (.ref x)] [.ref x] m Q := A_aload_n hB_X12_wordHere dX12_wordHere_0 rfl
theorem dX12_wordHere_1 : decode cX12_wordHere 1 = .ok (.ldc2_w 139, 3) := by decide +kernel
theorem tX12_wordHere_1 {d : Nat} {l0 : Option Value} {v0 : Value} {m : jmM} {Q : Option Value → jmM → Prop} : AW d 202 1 [l0] [v0] m Q ↔ AW d 202 4 [l0] [.long 120299592184933, v0] m Q := A_ldc2_w hB_X12_wordHere dX12_wordHere_1 hO_X12_wordHere fL2_12_139
theorem dX12_wordHere_4 : decode cX12_wordHere 4 = .ok (.invokevirtual 122, 3) := by decide +kernel
theorem tX12_wordHere_4 {d : Nat} {l0 : Option Value} {y0 : Value} {a : Nat} {m : jmM} {Q : Option Value → jmM → Prop} : AW d 202 4 [l0] [y0, .ref a] m Q ↔ (mS m a).1 = 12 ∧ CC d 198 [.ref a, y0] m (jK d 202 7 [l0] [] Q) := A_callV hB_X12_wordHere dX12_wordHere_4 hO_X12_wordHere fS_12_122 ⟨Nat.le_of_ble_eq_true rfl, Nat.le_of_ble_eq_true rfl⟩ rfl rfl rfl
theorem dX12_wordHere_7 : decode cX12_wordHere 7 = .ok (.ifCond .eq 5, 3) := by decide +kernel
theorem tX12_wordHere_7 {d : Nat} {l0 : Option Value} {x : Int32} {m : jmM} {Q : Option Value → jmM → Prop} : AW d 202 7 [l0] [.int x] m Q ↔ if x = 0 then AW d 202 12 [l0] [] m Q else AW d 202 10 [l0] [] m Q := A_if_eq hB_X12_wordHere dX12_wordHere_7 (by decide)
theorem dX12_wordHere_10 : decode cX12_wordHere 10 = .ok (.iconst 0, 1) := by decide +kernel
theorem tX12_wordHere_10 {d : Nat} {l0 : Option Value} {m : jmM} {Q : Option Value → jmM → Prop} : AW d 202 10 [l0] [] m Q ↔ AW d 202 11 [l0] [.int 0] m Q := A_iconst hB_X12_wordHere dX12_wordHere_10 (by decide)
theorem dX12_wordHere_11 : decode cX12_wordHere 11 = .ok (.ireturn, 1) := by decide +kernel
theorem tX12_wordHere_11 {d : Nat} {l0 : Option Value} {x : Int32} {m : jmM} {Q : Option Value → jmM → Prop} : AW d 202 11 [l0] [.int x] m Q ↔ Q (some (.int x)) m := A_ireturn hB_X12_wordHere dX12_wordHere_11 hR_X12_wordHere
theorem dX12_wordHere_12 : decode cX12_wordHere 12 = .ok (.aload_n 0, 1) := by decide +kernel
theorem tX12_wordHere_12 {d : Nat} {x : Nat} {m : jmM} {Q : Option Value → jmM → Prop} : AW d 202 12 [some (.ref x)] [] m Q ↔ AW d 202 13 [some (.ref x)] [.ref x] m Q := A_aload_n hB_X12_wordHere dX12_wordHere_12 rfl
theorem dX12_wordHere_13 : decode cX12_wordHere 13 = .ok (.ldc2_w 141, 3) := by decide +kernel
theorem tX12_wordHere_13 {d : Nat} {l0 : Option Value} {v0 : Value} {m : jmM} {Q : Option Value → jmM → Prop} : AW d 202 13 [l0] [v0] m Q ↔ AW d 202 16 [l0] [.long 1936024942, v0] m Q := A_ldc2_w hB_X12_wordHere dX12_wordHere_13 hO_X12_wordHere fL2_12_141
theorem dX12_wordHere_16 : decode cX12_wordHere 16 = .ok (.invokevirtual 122, 3) := by decide +kernel
theorem tX12_wordHere_16 {d : Nat} {l0 : Option Value} {y0 : Value} {a : Nat} {m : jmM} {Q : Option Value → jmM → Prop} : AW d 202 16 [l0] [y0, .ref a] m Q ↔ (mS m a).1 = 12 ∧ CC d 198 [.ref a, y0] m (jK d 202 19 [l0] [] Q) := A_callV hB_X12_wordHere dX12_wordHere_16 hO_X12_wordHere fS_12_122 ⟨Nat.le_of_ble_eq_true rfl, Nat.le_of_ble_eq_true rfl⟩ rfl rfl rfl
theorem dX12_wordHere_19 : decode cX12_wordHere 19 = .ok (.ifCond .eq 5, 3) := by decide +kernel
theorem tX12_wordHere_19 {d : Nat} {l0 : Option Value} {x : Int32} {m : jmM} {Q : Option Value → jmM → Prop} : AW d 202 19 [l0] [.int x] m Q ↔ if x = 0 then AW d 202 24 [l0] [] m Q else AW d 202 22 [l0] [] m Q := A_if_eq hB_X12_wordHere dX12_wordHere_19 (by decide)
theorem dX12_wordHere_22 : decode cX12_wordHere 22 = .ok (.iconst 1, 1) := by decide +kernel
theorem tX12_wordHere_22 {d : Nat} {l0 : Option Value} {m : jmM} {Q : Option Value → jmM → Prop} : AW d 202 22 [l0] [] m Q ↔ AW d 202 23 [l0] [.int 1] m Q := A_iconst hB_X12_wordHere dX12_wordHere_22 (by decide)
theorem dX12_wordHere_23 : decode cX12_wordHere 23 = .ok (.ireturn, 1) := by decide +kernel
theorem tX12_wordHere_23 {d : Nat} {l0 : Option Value} {x : Int32} {m : jmM} {Q : Option Value → jmM → Prop} : AW d 202 23 [l0] [.int x] m Q ↔ Q (some (.int x)) m := A_ireturn hB_X12_wordHere dX12_wordHere_23 hR_X12_wordHere
theorem dX12_wordHere_24 : decode cX12_wordHere 24 = .ok (.aload_n 0, 1) := by decide +kernel
theorem tX12_wordHere_24 {d : Nat} {x : Nat} {m : jmM} {Q : Option Value → jmM → Prop} : AW d 202 24 [some (.ref x)] [] m Q ↔ AW d 202 25 [some (.ref x)] [.ref x] m Q := A_aload_n hB_X12_wordHere dX12_wordHere_24 rfl
theorem dX12_wordHere_25 : decode cX12_wordHere 25 = .ok (.ldc2_w 143, 3) := by decide +kernel
theorem tX12_wordHere_25 {d : Nat} {l0 : Option Value} {v0 : Value} {m : jmM} {Q : Option Value → jmM → Prop} : AW d 202 25 [l0] [v0] m Q ↔ AW d 202 28 [l0] [.long 7823731, v0] m Q := A_ldc2_w hB_X12_wordHere dX12_wordHere_25 hO_X12_wordHere fL2_12_143
theorem dX12_wordHere_28 : decode cX12_wordHere 28 = .ok (.invokevirtual 122, 3) := by decide +kernel
theorem tX12_wordHere_28 {d : Nat} {l0 : Option Value} {y0 : Value} {a : Nat} {m : jmM} {Q : Option Value → jmM → Prop} : AW d 202 28 [l0] [y0, .ref a] m Q ↔ (mS m a).1 = 12 ∧ CC d 198 [.ref a, y0] m (jK d 202 31 [l0] [] Q) := A_callV hB_X12_wordHere dX12_wordHere_28 hO_X12_wordHere fS_12_122 ⟨Nat.le_of_ble_eq_true rfl, Nat.le_of_ble_eq_true rfl⟩ rfl rfl rfl
theorem dX12_wordHere_31 : decode cX12_wordHere 31 = .ok (.ifCond .eq 5, 3) := by decide +kernel
theorem tX12_wordHere_31 {d : Nat} {l0 : Option Value} {x : Int32} {m : jmM} {Q : Option Value → jmM → Prop} : AW d 202 31 [l0] [.int x] m Q ↔ if x = 0 then AW d 202 36 [l0] [] m Q else AW d 202 34 [l0] [] m Q := A_if_eq hB_X12_wordHere dX12_wordHere_31 (by decide)
theorem dX12_wordHere_34 : decode cX12_wordHere 34 = .ok (.iconst 2, 1) := by decide +kernel
theorem tX12_wordHere_34 {d : Nat} {l0 : Option Value} {m : jmM} {Q : Option Value → jmM → Prop} : AW d 202 34 [l0] [] m Q ↔ AW d 202 35 [l0] [.int 2] m Q := A_iconst hB_X12_wordHere dX12_wordHere_34 (by decide)
theorem dX12_wordHere_35 : decode cX12_wordHere 35 = .ok (.ireturn, 1) := by decide +kernel
theorem tX12_wordHere_35 {d : Nat} {l0 : Option Value} {x : Int32} {m : jmM} {Q : Option Value → jmM → Prop} : AW d 202 35 [l0] [.int x] m Q ↔ Q (some (.int x)) m := A_ireturn hB_X12_wordHere dX12_wordHere_35 hR_X12_wordHere
theorem dX12_wordHere_36 : decode cX12_wordHere 36 = .ok (.aload_n 0, 1) := by decide +kernel
theorem tX12_wordHere_36 {d : Nat} {x : Nat} {m : jmM} {Q : Option Value → jmM → Prop} : AW d 202 36 [some (.ref x)] [] m Q ↔ AW d 202 37 [some (.ref x)] [.ref x] m Q := A_aload_n hB_X12_wordHere dX12_wordHere_36 rfl
theorem dX12_wordHere_37 : decode cX12_wordHere 37 = .ok (.ldc2_w 145, 3) := by decide +kernel
theorem tX12_wordHere_37 {d : Nat} {l0 : Option Value} {v0 : Value} {m : jmM} {Q : Option Value → jmM → Prop} : AW d 202 37 [l0] [v0] m Q ↔ AW d 202 40 [l0] [.long 2002873972, v0] m Q := A_ldc2_w hB_X12_wordHere dX12_wordHere_37 hO_X12_wordHere fL2_12_145
theorem dX12_wordHere_40 : decode cX12_wordHere 40 = .ok (.invokevirtual 122, 3) := by decide +kernel
theorem tX12_wordHere_40 {d : Nat} {l0 : Option Value} {y0 : Value} {a : Nat} {m : jmM} {Q : Option Value → jmM → Prop} : AW d 202 40 [l0] [y0, .ref a] m Q ↔ (mS m a).1 = 12 ∧ CC d 198 [.ref a, y0] m (jK d 202 43 [l0] [] Q) := A_callV hB_X12_wordHere dX12_wordHere_40 hO_X12_wordHere fS_12_122 ⟨Nat.le_of_ble_eq_true rfl, Nat.le_of_ble_eq_true rfl⟩ rfl rfl rfl
theorem dX12_wordHere_43 : decode cX12_wordHere 43 = .ok (.ifCond .eq 5, 3) := by decide +kernel
theorem tX12_wordHere_43 {d : Nat} {l0 : Option Value} {x : Int32} {m : jmM} {Q : Option Value → jmM → Prop} : AW d 202 43 [l0] [.int x] m Q ↔ if x = 0 then AW d 202 48 [l0] [] m Q else AW d 202 46 [l0] [] m Q := A_if_eq hB_X12_wordHere dX12_wordHere_43 (by decide)
theorem dX12_wordHere_46 : decode cX12_wordHere 46 = .ok (.iconst 3, 1) := by decide +kernel
theorem tX12_wordHere_46 {d : Nat} {l0 : Option Value} {m : jmM} {Q : Option Value → jmM → Prop} : AW d 202 46 [l0] [] m Q ↔ AW d 202 47 [l0] [.int 3] m Q := A_iconst hB_X12_wordHere dX12_wordHere_46 (by decide)
theorem dX12_wordHere_47 : decode cX12_wordHere 47 = .ok (.ireturn, 1) := by decide +kernel
theorem tX12_wordHere_47 {d : Nat} {l0 : Option Value} {x : Int32} {m : jmM} {Q : Option Value → jmM → Prop} : AW d 202 47 [l0] [.int x] m Q ↔ Q (some (.int x)) m := A_ireturn hB_X12_wordHere dX12_wordHere_47 hR_X12_wordHere
theorem dX12_wordHere_48 : decode cX12_wordHere 48 = .ok (.aload_n 0, 1) := by decide +kernel
theorem tX12_wordHere_48 {d : Nat} {x : Nat} {m : jmM} {Q : Option Value → jmM → Prop} : AW d 202 48 [some (.ref x)] [] m Q ↔ AW d 202 49 [some (.ref x)] [.ref x] m Q := A_aload_n hB_X12_wordHere dX12_wordHere_48 rfl
theorem dX12_wordHere_49 : decode cX12_wordHere 49 = .ok (.ldc2_w 147, 3) := by decide +kernel
theorem tX12_wordHere_49 {d : Nat} {l0 : Option Value} {v0 : Value} {m : jmM} {Q : Option Value → jmM → Prop} : AW d 202 49 [l0] [v0] m Q ↔ AW d 202 52 [l0] [.long 1751474548, v0] m Q := A_ldc2_w hB_X12_wordHere dX12_wordHere_49 hO_X12_wordHere fL2_12_147
theorem dX12_wordHere_52 : decode cX12_wordHere 52 = .ok (.invokevirtual 122, 3) := by decide +kernel
theorem tX12_wordHere_52 {d : Nat} {l0 : Option Value} {y0 : Value} {a : Nat} {m : jmM} {Q : Option Value → jmM → Prop} : AW d 202 52 [l0] [y0, .ref a] m Q ↔ (mS m a).1 = 12 ∧ CC d 198 [.ref a, y0] m (jK d 202 55 [l0] [] Q) := A_callV hB_X12_wordHere dX12_wordHere_52 hO_X12_wordHere fS_12_122 ⟨Nat.le_of_ble_eq_true rfl, Nat.le_of_ble_eq_true rfl⟩ rfl rfl rfl
theorem dX12_wordHere_55 : decode cX12_wordHere 55 = .ok (.ifCond .eq 5, 3) := by decide +kernel
theorem tX12_wordHere_55 {d : Nat} {l0 : Option Value} {x : Int32} {m : jmM} {Q : Option Value → jmM → Prop} : AW d 202 55 [l0] [.int x] m Q ↔ if x = 0 then AW d 202 60 [l0] [] m Q else AW d 202 58 [l0] [] m Q := A_if_eq hB_X12_wordHere dX12_wordHere_55 (by decide)
theorem dX12_wordHere_58 : decode cX12_wordHere 58 = .ok (.iconst 4, 1) := by decide +kernel
theorem tX12_wordHere_58 {d : Nat} {l0 : Option Value} {m : jmM} {Q : Option Value → jmM → Prop} : AW d 202 58 [l0] [] m Q ↔ AW d 202 59 [l0] [.int 4] m Q := A_iconst hB_X12_wordHere dX12_wordHere_58 (by decide)
theorem dX12_wordHere_59 : decode cX12_wordHere 59 = .ok (.ireturn, 1) := by decide +kernel
theorem tX12_wordHere_59 {d : Nat} {l0 : Option Value} {x : Int32} {m : jmM} {Q : Option Value → jmM → Prop} : AW d 202 59 [l0] [.int x] m Q ↔ Q (some (.int x)) m := A_ireturn hB_X12_wordHere dX12_wordHere_59 hR_X12_wordHere
theorem dX12_wordHere_60 : decode cX12_wordHere 60 = .ok (.aload_n 0, 1) := by decide +kernel
theorem tX12_wordHere_60 {d : Nat} {x : Nat} {m : jmM} {Q : Option Value → jmM → Prop} : AW d 202 60 [some (.ref x)] [] m Q ↔ AW d 202 61 [some (.ref x)] [.ref x] m Q := A_aload_n hB_X12_wordHere dX12_wordHere_60 rfl
theorem dX12_wordHere_61 : decode cX12_wordHere 61 = .ok (.ldc2_w 149, 3) := by decide +kernel
theorem tX12_wordHere_61 {d : Nat} {l0 : Option Value} {v0 : Value} {m : jmM} {Q : Option Value → jmM → Prop} : AW d 202 61 [l0] [v0] m Q ↔ AW d 202 64 [l0] [.long 1886743660, v0] m Q := A_ldc2_w hB_X12_wordHere dX12_wordHere_61 hO_X12_wordHere fL2_12_149
theorem dX12_wordHere_64 : decode cX12_wordHere 64 = .ok (.invokevirtual 122, 3) := by decide +kernel
theorem tX12_wordHere_64 {d : Nat} {l0 : Option Value} {y0 : Value} {a : Nat} {m : jmM} {Q : Option Value → jmM → Prop} : AW d 202 64 [l0] [y0, .ref a] m Q ↔ (mS m a).1 = 12 ∧ CC d 198 [.ref a, y0] m (jK d 202 67 [l0] [] Q) := A_callV hB_X12_wordHere dX12_wordHere_64 hO_X12_wordHere fS_12_122 ⟨Nat.le_of_ble_eq_true rfl, Nat.le_of_ble_eq_true rfl⟩ rfl rfl rfl
theorem dX12_wordHere_67 : decode cX12_wordHere 67 = .ok (.ifCond .eq 5, 3) := by decide +kernel
theorem tX12_wordHere_67 {d : Nat} {l0 : Option Value} {x : Int32} {m : jmM} {Q : Option Value → jmM → Prop} : AW d 202 67 [l0] [.int x] m Q ↔ if x = 0 then AW d 202 72 [l0] [] m Q else AW d 202 70 [l0] [] m Q := A_if_eq hB_X12_wordHere dX12_wordHere_67 (by decide)
theorem dX12_wordHere_70 : decode cX12_wordHere 70 = .ok (.iconst 5, 1) := by decide +kernel
theorem tX12_wordHere_70 {d : Nat} {l0 : Option Value} {m : jmM} {Q : Option Value → jmM → Prop} : AW d 202 70 [l0] [] m Q ↔ AW d 202 71 [l0] [.int 5] m Q := A_iconst hB_X12_wordHere dX12_wordHere_70 (by decide)
theorem dX12_wordHere_71 : decode cX12_wordHere 71 = .ok (.ireturn, 1) := by decide +kernel
theorem tX12_wordHere_71 {d : Nat} {l0 : Option Value} {x : Int32} {m : jmM} {Q : Option Value → jmM → Prop} : AW d 202 71 [l0] [.int x] m Q ↔ Q (some (.int x)) m := A_ireturn hB_X12_wordHere dX12_wordHere_71 hR_X12_wordHere
theorem dX12_wordHere_72 : decode cX12_wordHere 72 = .ok (.aload_n 0, 1) := by decide +kernel
theorem tX12_wordHere_72 {d : Nat} {x : Nat} {m : jmM} {Q : Option Value → jmM → Prop} : AW d 202 72 [some (.ref x)] [] m Q ↔ AW d 202 73 [some (.ref x)] [.ref x] m Q := A_aload_n hB_X12_wordHere dX12_wordHere_72 rfl
theorem dX12_wordHere_73 : decode cX12_wordHere 73 = .ok (.ldc2_w 151, 3) := by decide +kernel
theorem tX12_wordHere_73 {d : Nat} {l0 : Option Value} {v0 : Value} {m : jmM} {Q : Option Value → jmM → Prop} : AW d 202 73 [l0] [v0] m Q ↔ AW d 202 76 [l0] [.long 1818584692, v0] m Q := A_ldc2_w hB_X12_wordHere dX12_wordHere_73 hO_X12_wordHere fL2_12_151
theorem dX12_wordHere_76 : decode cX12_wordHere 76 = .ok (.invokevirtual 122, 3) := by decide +kernel
theorem tX12_wordHere_76 {d : Nat} {l0 : Option Value} {y0 : Value} {a : Nat} {m : jmM} {Q : Option Value → jmM → Prop} : AW d 202 76 [l0] [y0, .ref a] m Q ↔ (mS m a).1 = 12 ∧ CC d 198 [.ref a, y0] m (jK d 202 79 [l0] [] Q) := A_callV hB_X12_wordHere dX12_wordHere_76 hO_X12_wordHere fS_12_122 ⟨Nat.le_of_ble_eq_true rfl, Nat.le_of_ble_eq_true rfl⟩ rfl rfl rfl
theorem dX12_wordHere_79 : decode cX12_wordHere 79 = .ok (.ifCond .eq 6, 3) := by decide +kernel
theorem tX12_wordHere_79 {d : Nat} {l0 : Option Value} {x : Int32} {m : jmM} {Q : Option Value → jmM → Prop} : AW d 202 79 [l0] [.int x] m Q ↔ if x = 0 then AW d 202 85 [l0] [] m Q else AW d 202 82 [l0] [] m Q := A_if_eq hB_X12_wordHere dX12_wordHere_79 (by decide)
theorem dX12_wordHere_82 : decode cX12_wordHere 82 = .ok (.bipush 6, 2) := by decide +kernel
theorem tX12_wordHere_82 {d : Nat} {l0 : Option Value} {m : jmM} {Q : Option Value → jmM → Prop} : AW d 202 82 [l0] [] m Q ↔ AW d 202 84 [l0] [.int 6] m Q := A_bipush hB_X12_wordHere dX12_wordHere_82 rfl
theorem dX12_wordHere_84 : decode cX12_wordHere 84 = .ok (.ireturn, 1) := by decide +kernel
theorem tX12_wordHere_84 {d : Nat} {l0 : Option Value} {x : Int32} {m : jmM} {Q : Option Value → jmM → Prop} : AW d 202 84 [l0] [.int x] m Q ↔ Q (some (.int x)) m := A_ireturn hB_X12_wordHere dX12_wordHere_84 hR_X12_wordHere
theorem dX12_wordHere_85 : decode cX12_wordHere 85 = .ok (.aload_n 0, 1) := by decide +kernel
theorem tX12_wordHere_85 {d : Nat} {x : Nat} {m : jmM} {Q : Option Value → jmM → Prop} : AW d 202 85 [some (.ref x)] [] m Q ↔ AW d 202 86 [some (.ref x)] [.ref x] m Q := A_aload_n hB_X12_wordHere dX12_wordHere_85 rfl
theorem dX12_wordHere_86 : decode cX12_wordHere 86 = .ok (.ldc2_w 153, 3) := by decide +kernel
theorem tX12_wordHere_86 {d : Nat} {l0 : Option Value} {v0 : Value} {m : jmM} {Q : Option Value → jmM → Prop} : AW d 202 86 [l0] [v0] m Q ↔ AW d 202 89 [l0] [.long 1819242087, v0] m Q := A_ldc2_w hB_X12_wordHere dX12_wordHere_86 hO_X12_wordHere fL2_12_153
theorem dX12_wordHere_89 : decode cX12_wordHere 89 = .ok (.invokevirtual 122, 3) := by decide +kernel
theorem tX12_wordHere_89 {d : Nat} {l0 : Option Value} {y0 : Value} {a : Nat} {m : jmM} {Q : Option Value → jmM → Prop} : AW d 202 89 [l0] [y0, .ref a] m Q ↔ (mS m a).1 = 12 ∧ CC d 198 [.ref a, y0] m (jK d 202 92 [l0] [] Q) := A_callV hB_X12_wordHere dX12_wordHere_89 hO_X12_wordHere fS_12_122 ⟨Nat.le_of_ble_eq_true rfl, Nat.le_of_ble_eq_true rfl⟩ rfl rfl rfl
theorem dX12_wordHere_92 : decode cX12_wordHere 92 = .ok (.ifCond .eq 6, 3) := by decide +kernel
theorem tX12_wordHere_92 {d : Nat} {l0 : Option Value} {x : Int32} {m : jmM} {Q : Option Value → jmM → Prop} : AW d 202 92 [l0] [.int x] m Q ↔ if x = 0 then AW d 202 98 [l0] [] m Q else AW d 202 95 [l0] [] m Q := A_if_eq hB_X12_wordHere dX12_wordHere_92 (by decide)
theorem dX12_wordHere_95 : decode cX12_wordHere 95 = .ok (.bipush 7, 2) := by decide +kernel
theorem tX12_wordHere_95 {d : Nat} {l0 : Option Value} {m : jmM} {Q : Option Value → jmM → Prop} : AW d 202 95 [l0] [] m Q ↔ AW d 202 97 [l0] [.int 7] m Q := A_bipush hB_X12_wordHere dX12_wordHere_95 rfl
theorem dX12_wordHere_97 : decode cX12_wordHere 97 = .ok (.ireturn, 1) := by decide +kernel
theorem tX12_wordHere_97 {d : Nat} {l0 : Option Value} {x : Int32} {m : jmM} {Q : Option Value → jmM → Prop} : AW d 202 97 [l0] [.int x] m Q ↔ Q (some (.int x)) m := A_ireturn hB_X12_wordHere dX12_wordHere_97 hR_X12_wordHere
theorem dX12_wordHere_98 : decode cX12_wordHere 98 = .ok (.aload_n 0, 1) := by decide +kernel
theorem tX12_wordHere_98 {d : Nat} {x : Nat} {m : jmM} {Q : Option Value → jmM → Prop} : AW d 202 98 [some (.ref x)] [] m Q ↔ AW d 202 99 [some (.ref x)] [.ref x] m Q := A_aload_n hB_X12_wordHere dX12_wordHere_98 rfl
theorem dX12_wordHere_99 : decode cX12_wordHere 99 = .ok (.ldc2_w 155, 3) := by decide +kernel
theorem tX12_wordHere_99 {d : Nat} {l0 : Option Value} {v0 : Value} {m : jmM} {Q : Option Value → jmM → Prop} : AW d 202 99 [l0] [v0] m Q ↔ AW d 202 102 [l0] [.long 2003395685, v0] m Q := A_ldc2_w hB_X12_wordHere dX12_wordHere_99 hO_X12_wordHere fL2_12_155
theorem dX12_wordHere_102 : decode cX12_wordHere 102 = .ok (.invokevirtual 122, 3) := by decide +kernel
theorem tX12_wordHere_102 {d : Nat} {l0 : Option Value} {y0 : Value} {a : Nat} {m : jmM} {Q : Option Value → jmM → Prop} : AW d 202 102 [l0] [y0, .ref a] m Q ↔ (mS m a).1 = 12 ∧ CC d 198 [.ref a, y0] m (jK d 202 105 [l0] [] Q) := A_callV hB_X12_wordHere dX12_wordHere_102 hO_X12_wordHere fS_12_122 ⟨Nat.le_of_ble_eq_true rfl, Nat.le_of_ble_eq_true rfl⟩ rfl rfl rfl
theorem dX12_wordHere_105 : decode cX12_wordHere 105 = .ok (.ifCond .eq 16, 3) := by decide +kernel
theorem tX12_wordHere_105 {d : Nat} {l0 : Option Value} {x : Int32} {m : jmM} {Q : Option Value → jmM → Prop} : AW d 202 105 [l0] [.int x] m Q ↔ if x = 0 then AW d 202 121 [l0] [] m Q else AW d 202 108 [l0] [] m Q := A_if_eq hB_X12_wordHere dX12_wordHere_105 (by decide)
theorem dX12_wordHere_108 : decode cX12_wordHere 108 = .ok (.aload_n 0, 1) := by decide +kernel
theorem tX12_wordHere_108 {d : Nat} {x : Nat} {m : jmM} {Q : Option Value → jmM → Prop} : AW d 202 108 [some (.ref x)] [] m Q ↔ AW d 202 109 [some (.ref x)] [.ref x] m Q := A_aload_n hB_X12_wordHere dX12_wordHere_108 rfl
theorem dX12_wordHere_109 : decode cX12_wordHere 109 = .ok (.getfield 157, 3) := by decide +kernel
theorem tX12_wordHere_109 {d : Nat} {l0 : Option Value} {a : Nat} {m : jmM} {Q : Option Value → jmM → Prop} : AW d 202 109 [l0] [.ref a] m Q ↔ (mS m a).1 = 12 ∧ AW d 202 112 [l0] [.int (mI m a 14)] m Q := A_getfield (f := fun m a => .int (mI m a 14)) hB_X12_wordHere dX12_wordHere_109 hO_X12_wordHere fF_12_157 rfl
theorem dX12_wordHere_112 : decode cX12_wordHere 112 = .ok (.iconst 4, 1) := by decide +kernel
theorem tX12_wordHere_112 {d : Nat} {l0 : Option Value} {v0 : Value} {m : jmM} {Q : Option Value → jmM → Prop} : AW d 202 112 [l0] [v0] m Q ↔ AW d 202 113 [l0] [.int 4, v0] m Q := A_iconst hB_X12_wordHere dX12_wordHere_112 (by decide)
theorem dX12_wordHere_113 : decode cX12_wordHere 113 = .ok (.if_icmp .ge 8, 3) := by decide +kernel
theorem tX12_wordHere_113 {d : Nat} {l0 : Option Value} {x y : Int32} {m : jmM} {Q : Option Value → jmM → Prop} : AW d 202 113 [l0] [.int y, .int x] m Q ↔ if y ≤ x then AW d 202 121 [l0] [] m Q else AW d 202 116 [l0] [] m Q := A_icmp_ge hB_X12_wordHere dX12_wordHere_113 (by decide)
theorem dX12_wordHere_116 : decode cX12_wordHere 116 = .ok (.bipush 8, 2) := by decide +kernel
theorem tX12_wordHere_116 {d : Nat} {l0 : Option Value} {m : jmM} {Q : Option Value → jmM → Prop} : AW d 202 116 [l0] [] m Q ↔ AW d 202 118 [l0] [.int 8] m Q := A_bipush hB_X12_wordHere dX12_wordHere_116 rfl
theorem dX12_wordHere_118 : decode cX12_wordHere 118 = .ok (.goto 4, 3) := by decide +kernel
theorem tX12_wordHere_118 {d : Nat} {l0 : Option Value} {v0 : Value} {m : jmM} {Q : Option Value → jmM → Prop} : AW d 202 118 [l0] [v0] m Q ↔ AW d 202 122 [l0] [v0] m Q := A_goto hB_X12_wordHere dX12_wordHere_118 (by decide)
theorem dX12_wordHere_121 : decode cX12_wordHere 121 = .ok (.iconst (-1), 1) := by decide +kernel
theorem tX12_wordHere_121 {d : Nat} {l0 : Option Value} {m : jmM} {Q : Option Value → jmM → Prop} : AW d 202 121 [l0] [] m Q ↔ AW d 202 122 [l0] [.int (-1)] m Q := A_iconst hB_X12_wordHere dX12_wordHere_121 (by decide)
theorem dX12_wordHere_122 : decode cX12_wordHere 122 = .ok (.ireturn, 1) := by decide +kernel
theorem tX12_wordHere_122 {d : Nat} {l0 : Option Value} {x : Int32} {m : jmM} {Q : Option Value → jmM → Prop} : AW d 202 122 [l0] [.int x] m Q ↔ Q (some (.int x)) m := A_ireturn hB_X12_wordHere dX12_wordHere_122 hR_X12_wordHere
theorem hB_X12_puts : jB 203 = cX12_puts := rfl
theorem hO_X12_puts : jO 203 = 12 := rfl
theorem hR_X12_puts : jRt 203 = none := rfl
theorem nX12_puts (d : Nat) (x0 : Nat) (x1 : Int32) (x2 : Int32) (m : jmM) (Q : Option Value → jmM → Prop) : CC (d + 1) 203 [.ref x0, .int x1, .int x2] m Q ↔ AW d 203 0 [some (.ref x0), some (.int x1), some (.int x2)] [] m Q := CC_body (Nat.le_of_ble_eq_true rfl)
theorem dX12_puts_0 : decode cX12_puts 0 = .ok (.aload_n 0, 1) := by decide +kernel
theorem tX12_puts_0 {d : Nat} {l1 l2 : Option Value} {x : Nat} {m : jmM} {Q : Option Value → jmM → Prop} : AW d 203 0 [some (.ref x), l1, l2] [] m Q ↔ AW d 203 1 [some (.ref x), l1, l2] [.ref x] m Q := A_aload_n hB_X12_puts dX12_puts_0 rfl
theorem dX12_puts_1 : decode cX12_puts 1 = .ok (.getfield 13, 3) := by decide +kernel
theorem tX12_puts_1 {d : Nat} {l0 l1 l2 : Option Value} {a : Nat} {m : jmM} {Q : Option Value → jmM → Prop} : AW d 203 1 [l0, l1, l2] [.ref a] m Q ↔ (mS m a).1 = 12 ∧ AW d 203 4 [l0, l1, l2] [va_rf (mR m a 2)] m Q := A_getfield (f := fun m a => va_rf (mR m a 2)) hB_X12_puts dX12_puts_1 hO_X12_puts fF_12_13 rfl
theorem dX12_puts_4 : decode cX12_puts 4 = .ok (.sipush 400, 3) := by decide +kernel
theorem tX12_puts_4 {d : Nat} {l0 l1 l2 : Option Value} {v0 : Value} {m : jmM} {Q : Option Value → jmM → Prop} : AW d 203 4 [l0, l1, l2] [v0] m Q ↔ AW d 203 7 [l0, l1, l2] [.int 400, v0] m Q := A_sipush hB_X12_puts dX12_puts_4 rfl
theorem dX12_puts_7 : decode cX12_puts 7 = .ok (.aload_n 0, 1) := by decide +kernel
theorem tX12_puts_7 {d : Nat} {l1 l2 : Option Value} {v0 v1 : Value} {x : Nat} {m : jmM} {Q : Option Value → jmM → Prop} : AW d 203 7 [some (.ref x), l1, l2] [v0, v1] m Q ↔ AW d 203 8 [some (.ref x), l1, l2] [.ref x, v0, v1] m Q := A_aload_n hB_X12_puts dX12_puts_7 rfl
theorem dX12_puts_8 : decode cX12_puts 8 = .ok (.getfield 157, 3) := by decide +kernel
theorem tX12_puts_8 {d : Nat} {l0 l1 l2 : Option Value} {v1 v2 : Value} {a : Nat} {m : jmM} {Q : Option Value → jmM → Prop} : AW d 203 8 [l0, l1, l2] [.ref a, v1, v2] m Q ↔ (mS m a).1 = 12 ∧ AW d 203 11 [l0, l1, l2] [.int (mI m a 14), v1, v2] m Q := A_getfield (f := fun m a => .int (mI m a 14)) hB_X12_puts dX12_puts_8 hO_X12_puts fF_12_157 rfl
theorem dX12_puts_11 : decode cX12_puts 11 = .ok (.imul, 1) := by decide +kernel
theorem tX12_puts_11 {d : Nat} {l0 l1 l2 : Option Value} {v2 : Value} {x y : Int32} {m : jmM} {Q : Option Value → jmM → Prop} : AW d 203 11 [l0, l1, l2] [.int y, .int x, v2] m Q ↔ AW d 203 12 [l0, l1, l2] [.int (x * y), v2] m Q := A_imul hB_X12_puts dX12_puts_11
theorem dX12_puts_12 : decode cX12_puts 12 = .ok (.aload_n 0, 1) := by decide +kernel
theorem tX12_puts_12 {d : Nat} {l1 l2 : Option Value} {v0 v1 : Value} {x : Nat} {m : jmM} {Q : Option Value → jmM → Prop} : AW d 203 12 [some (.ref x), l1, l2] [v0, v1] m Q ↔ AW d 203 13 [some (.ref x), l1, l2] [.ref x, v0, v1] m Q := A_aload_n hB_X12_puts dX12_puts_12 rfl
theorem dX12_puts_13 : decode cX12_puts 13 = .ok (.getfield 17, 3) := by decide +kernel
theorem tX12_puts_13 {d : Nat} {l0 l1 l2 : Option Value} {v1 v2 : Value} {a : Nat} {m : jmM} {Q : Option Value → jmM → Prop} : AW d 203 13 [l0, l1, l2] [.ref a, v1, v2] m Q ↔ (mS m a).1 = 12 ∧ AW d 203 16 [l0, l1, l2] [va_rf (mR m a 3), v1, v2] m Q := A_getfield (f := fun m a => va_rf (mR m a 3)) hB_X12_puts dX12_puts_13 hO_X12_puts fF_12_17 rfl
theorem dX12_puts_16 : decode cX12_puts 16 = .ok (.aload_n 0, 1) := by decide +kernel
theorem tX12_puts_16 {d : Nat} {l1 l2 : Option Value} {v0 v1 v2 : Value} {x : Nat} {m : jmM} {Q : Option Value → jmM → Prop} : AW d 203 16 [some (.ref x), l1, l2] [v0, v1, v2] m Q ↔ AW d 203 17 [some (.ref x), l1, l2] [.ref x, v0, v1, v2] m Q := A_aload_n hB_X12_puts dX12_puts_16 rfl
theorem dX12_puts_17 : decode cX12_puts 17 = .ok (.getfield 157, 3) := by decide +kernel
theorem tX12_puts_17 {d : Nat} {l0 l1 l2 : Option Value} {v1 v2 v3 : Value} {a : Nat} {m : jmM} {Q : Option Value → jmM → Prop} : AW d 203 17 [l0, l1, l2] [.ref a, v1, v2, v3] m Q ↔ (mS m a).1 = 12 ∧ AW d 203 20 [l0, l1, l2] [.int (mI m a 14), v1, v2, v3] m Q := A_getfield (f := fun m a => .int (mI m a 14)) hB_X12_puts dX12_puts_17 hO_X12_puts fF_12_157 rfl
theorem dX12_puts_20 : decode cX12_puts 20 = .ok (.iaload, 1) := by decide +kernel
theorem tX12_puts_20 {d : Nat} {l0 l1 l2 : Option Value} {v2 v3 : Value} {i : Int32} {a : Nat} {m : jmM} {Q : Option Value → jmM → Prop} : AW d 203 20 [l0, l1, l2] [.int i, .ref a, v2, v3] m Q ↔ (((mS m a).1 = 20 ∨ a = jScr) ∧ jIx i (mS m a).2) ∧ AW d 203 21 [l0, l1, l2] [.int (mI m a (jx i)), v2, v3] m Q := A_iaload hB_X12_puts dX12_puts_20
theorem dX12_puts_21 : decode cX12_puts 21 = .ok (.iadd, 1) := by decide +kernel
theorem tX12_puts_21 {d : Nat} {l0 l1 l2 : Option Value} {v2 : Value} {x y : Int32} {m : jmM} {Q : Option Value → jmM → Prop} : AW d 203 21 [l0, l1, l2] [.int y, .int x, v2] m Q ↔ AW d 203 22 [l0, l1, l2] [.int (x + y), v2] m Q := A_iadd hB_X12_puts dX12_puts_21
theorem dX12_puts_22 : decode cX12_puts 22 = .ok (.iload_n 1, 1) := by decide +kernel
theorem tX12_puts_22 {d : Nat} {l0 l2 : Option Value} {v0 v1 : Value} {x : Int32} {m : jmM} {Q : Option Value → jmM → Prop} : AW d 203 22 [l0, some (.int x), l2] [v0, v1] m Q ↔ AW d 203 23 [l0, some (.int x), l2] [.int x, v0, v1] m Q := A_iload_n hB_X12_puts dX12_puts_22 rfl
theorem dX12_puts_23 : decode cX12_puts 23 = .ok (.bipush 16, 2) := by decide +kernel
theorem tX12_puts_23 {d : Nat} {l0 l1 l2 : Option Value} {v0 v1 v2 : Value} {m : jmM} {Q : Option Value → jmM → Prop} : AW d 203 23 [l0, l1, l2] [v0, v1, v2] m Q ↔ AW d 203 25 [l0, l1, l2] [.int 16, v0, v1, v2] m Q := A_bipush hB_X12_puts dX12_puts_23 rfl
theorem dX12_puts_25 : decode cX12_puts 25 = .ok (.iload_n 2, 1) := by decide +kernel
theorem tX12_puts_25 {d : Nat} {l0 l1 : Option Value} {v0 v1 v2 v3 : Value} {x : Int32} {m : jmM} {Q : Option Value → jmM → Prop} : AW d 203 25 [l0, l1, some (.int x)] [v0, v1, v2, v3] m Q ↔ AW d 203 26 [l0, l1, some (.int x)] [.int x, v0, v1, v2, v3] m Q := A_iload_n hB_X12_puts dX12_puts_25 rfl
theorem dX12_puts_26 : decode cX12_puts 26 = .ok (.imul, 1) := by decide +kernel
theorem tX12_puts_26 {d : Nat} {l0 l1 l2 : Option Value} {v2 v3 v4 : Value} {x y : Int32} {m : jmM} {Q : Option Value → jmM → Prop} : AW d 203 26 [l0, l1, l2] [.int y, .int x, v2, v3, v4] m Q ↔ AW d 203 27 [l0, l1, l2] [.int (x * y), v2, v3, v4] m Q := A_imul hB_X12_puts dX12_puts_26
theorem dX12_puts_27 : decode cX12_puts 27 = .ok (.iadd, 1) := by decide +kernel
theorem tX12_puts_27 {d : Nat} {l0 l1 l2 : Option Value} {v2 v3 : Value} {x y : Int32} {m : jmM} {Q : Option Value → jmM → Prop} : AW d 203 27 [l0, l1, l2] [.int y, .int x, v2, v3] m Q ↔ AW d 203 28 [l0, l1, l2] [.int (x + y), v2, v3] m Q := A_iadd hB_X12_puts dX12_puts_27
theorem dX12_puts_28 : decode cX12_puts 28 = .ok (.iastore, 1) := by decide +kernel
theorem tX12_puts_28 {d : Nat} {l0 l1 l2 : Option Value} {x i : Int32} {a : Nat} {m : jmM} {Q : Option Value → jmM → Prop} : AW d 203 28 [l0, l1, l2] [.int x, .int i, .ref a] m Q ↔ ((mS m a).1 = 20 ∧ jIx i (mS m a).2) ∧ AW d 203 29 [l0, l1, l2] [] (cI m a (jup (mI m a) (jx i) x)) Q := A_iastore hB_X12_puts dX12_puts_28
theorem dX12_puts_29 : decode cX12_puts 29 = .ok (.aload_n 0, 1) := by decide +kernel
theorem tX12_puts_29 {d : Nat} {l1 l2 : Option Value} {x : Nat} {m : jmM} {Q : Option Value → jmM → Prop} : AW d 203 29 [some (.ref x), l1, l2] [] m Q ↔ AW d 203 30 [some (.ref x), l1, l2] [.ref x] m Q := A_aload_n hB_X12_puts dX12_puts_29 rfl
theorem dX12_puts_30 : decode cX12_puts 30 = .ok (.getfield 17, 3) := by decide +kernel
theorem tX12_puts_30 {d : Nat} {l0 l1 l2 : Option Value} {a : Nat} {m : jmM} {Q : Option Value → jmM → Prop} : AW d 203 30 [l0, l1, l2] [.ref a] m Q ↔ (mS m a).1 = 12 ∧ AW d 203 33 [l0, l1, l2] [va_rf (mR m a 3)] m Q := A_getfield (f := fun m a => va_rf (mR m a 3)) hB_X12_puts dX12_puts_30 hO_X12_puts fF_12_17 rfl
theorem dX12_puts_33 : decode cX12_puts 33 = .ok (.aload_n 0, 1) := by decide +kernel
theorem tX12_puts_33 {d : Nat} {l1 l2 : Option Value} {v0 : Value} {x : Nat} {m : jmM} {Q : Option Value → jmM → Prop} : AW d 203 33 [some (.ref x), l1, l2] [v0] m Q ↔ AW d 203 34 [some (.ref x), l1, l2] [.ref x, v0] m Q := A_aload_n hB_X12_puts dX12_puts_33 rfl
theorem dX12_puts_34 : decode cX12_puts 34 = .ok (.getfield 157, 3) := by decide +kernel
theorem tX12_puts_34 {d : Nat} {l0 l1 l2 : Option Value} {v1 : Value} {a : Nat} {m : jmM} {Q : Option Value → jmM → Prop} : AW d 203 34 [l0, l1, l2] [.ref a, v1] m Q ↔ (mS m a).1 = 12 ∧ AW d 203 37 [l0, l1, l2] [.int (mI m a 14), v1] m Q := A_getfield (f := fun m a => .int (mI m a 14)) hB_X12_puts dX12_puts_34 hO_X12_puts fF_12_157 rfl
theorem dX12_puts_37 : decode cX12_puts 37 = .ok (.dup2, 1) := by decide +kernel
theorem tX12_puts_37 {d : Nat} {l0 l1 l2 : Option Value} {x : Int32} {y : Nat} {m : jmM} {Q : Option Value → jmM → Prop} : AW d 203 37 [l0, l1, l2] [.int x, .ref y] m Q ↔ AW d 203 38 [l0, l1, l2] [.int x, .ref y, .int x, .ref y] m Q := A_dup2_ia hB_X12_puts dX12_puts_37
theorem dX12_puts_38 : decode cX12_puts 38 = .ok (.iaload, 1) := by decide +kernel
theorem tX12_puts_38 {d : Nat} {l0 l1 l2 : Option Value} {v2 v3 : Value} {i : Int32} {a : Nat} {m : jmM} {Q : Option Value → jmM → Prop} : AW d 203 38 [l0, l1, l2] [.int i, .ref a, v2, v3] m Q ↔ (((mS m a).1 = 20 ∨ a = jScr) ∧ jIx i (mS m a).2) ∧ AW d 203 39 [l0, l1, l2] [.int (mI m a (jx i)), v2, v3] m Q := A_iaload hB_X12_puts dX12_puts_38
theorem dX12_puts_39 : decode cX12_puts 39 = .ok (.iconst 1, 1) := by decide +kernel
theorem tX12_puts_39 {d : Nat} {l0 l1 l2 : Option Value} {v0 v1 v2 : Value} {m : jmM} {Q : Option Value → jmM → Prop} : AW d 203 39 [l0, l1, l2] [v0, v1, v2] m Q ↔ AW d 203 40 [l0, l1, l2] [.int 1, v0, v1, v2] m Q := A_iconst hB_X12_puts dX12_puts_39 (by decide)
theorem dX12_puts_40 : decode cX12_puts 40 = .ok (.iadd, 1) := by decide +kernel
theorem tX12_puts_40 {d : Nat} {l0 l1 l2 : Option Value} {v2 v3 : Value} {x y : Int32} {m : jmM} {Q : Option Value → jmM → Prop} : AW d 203 40 [l0, l1, l2] [.int y, .int x, v2, v3] m Q ↔ AW d 203 41 [l0, l1, l2] [.int (x + y), v2, v3] m Q := A_iadd hB_X12_puts dX12_puts_40
theorem dX12_puts_41 : decode cX12_puts 41 = .ok (.iastore, 1) := by decide +kernel
theorem tX12_puts_41 {d : Nat} {l0 l1 l2 : Option Value} {x i : Int32} {a : Nat} {m : jmM} {Q : Option Value → jmM → Prop} : AW d 203 41 [l0, l1, l2] [.int x, .int i, .ref a] m Q ↔ ((mS m a).1 = 20 ∧ jIx i (mS m a).2) ∧ AW d 203 42 [l0, l1, l2] [] (cI m a (jup (mI m a) (jx i) x)) Q := A_iastore hB_X12_puts dX12_puts_41
theorem dX12_puts_42 : decode cX12_puts 42 = .ok (.return_, 1) := by decide +kernel
theorem tX12_puts_42 {d : Nat} {l0 l1 l2 : Option Value} {m : jmM} {Q : Option Value → jmM → Prop} : AW d 203 42 [l0, l1, l2] [] m Q ↔ Q none m := A_return hB_X12_puts dX12_puts_42 hR_X12_puts
theorem hB_X12_makes : jB 204 = cX12_makes := rfl
theorem hO_X12_makes : jO 204 = 12 := rfl
theorem hR_X12_makes : jRt 204 = (some .boolean) := rfl
theorem nX12_makes (d : Nat) (x0 : Nat) (x1 : Int32) (m : jmM) (Q : Option Value → jmM → Prop) : CC (d + 1) 204 [.ref x0, .int x1] m Q ↔ AW d 204 0 [some (.ref x0), some (.int x1)] [] m Q := CC_body (Nat.le_of_ble_eq_true rfl)
theorem dX12_makes_0 : decode cX12_makes 0 = .ok (.aload_n 0, 1) := by decide +kernel
theorem tX12_makes_0 {d : Nat} {l1 : Option Value} {x : Nat} {m : jmM} {Q : Option Value → jmM → Prop} : AW d 204 0 [some (.ref x), l1] [] m Q ↔ AW d 204 1 [some (.ref x), l1] [.ref x] m Q := A_aload_n hB_X12_makes dX12_makes_0 rfl
theorem dX12_makes_1 : decode cX12_makes 1 = .ok (.getfield 160, 3) := by decide +kernel
theorem tX12_makes_1 {d : Nat} {l0 l1 : Option Value} {a : Nat} {m : jmM} {Q : Option Value → jmM → Prop} : AW d 204 1 [l0, l1] [.ref a] m Q ↔ (mS m a).1 = 12 ∧ AW d 204 4 [l0, l1] [.int (mI m a 15)] m Q := A_getfield (f := fun m a => .int (mI m a 15)) hB_X12_makes dX12_makes_1 hO_X12_makes fF_12_160 rfl
theorem dX12_makes_4 : decode cX12_makes 4 = .ok (.bipush 60, 2) := by decide +kernel
theorem tX12_makes_4 {d : Nat} {l0 l1 : Option Value} {v0 : Value} {m : jmM} {Q : Option Value → jmM → Prop} : AW d 204 4 [l0, l1] [v0] m Q ↔ AW d 204 6 [l0, l1] [.int 60, v0] m Q := A_bipush hB_X12_makes dX12_makes_4 rfl
theorem dX12_makes_6 : decode cX12_makes 6 = .ok (.if_icmp .ne 10, 3) := by decide +kernel
theorem tX12_makes_6 {d : Nat} {l0 l1 : Option Value} {x y : Int32} {m : jmM} {Q : Option Value → jmM → Prop} : AW d 204 6 [l0, l1] [.int y, .int x] m Q ↔ if x = y then AW d 204 9 [l0, l1] [] m Q else AW d 204 16 [l0, l1] [] m Q := A_icmp_ne hB_X12_makes dX12_makes_6 (by decide)
theorem dX12_makes_9 : decode cX12_makes 9 = .ok (.aload_n 0, 1) := by decide +kernel
theorem tX12_makes_9 {d : Nat} {l1 : Option Value} {x : Nat} {m : jmM} {Q : Option Value → jmM → Prop} : AW d 204 9 [some (.ref x), l1] [] m Q ↔ AW d 204 10 [some (.ref x), l1] [.ref x] m Q := A_aload_n hB_X12_makes dX12_makes_9 rfl
theorem dX12_makes_10 : decode cX12_makes 10 = .ok (.iconst 3, 1) := by decide +kernel
theorem tX12_makes_10 {d : Nat} {l0 l1 : Option Value} {v0 : Value} {m : jmM} {Q : Option Value → jmM → Prop} : AW d 204 10 [l0, l1] [v0] m Q ↔ AW d 204 11 [l0, l1] [.int 3, v0] m Q := A_iconst hB_X12_makes dX12_makes_10 (by decide)
theorem dX12_makes_11 : decode cX12_makes 11 = .ok (.iload_n 1, 1) := by decide +kernel
theorem tX12_makes_11 {d : Nat} {l0 : Option Value} {v0 v1 : Value} {x : Int32} {m : jmM} {Q : Option Value → jmM → Prop} : AW d 204 11 [l0, some (.int x)] [v0, v1] m Q ↔ AW d 204 12 [l0, some (.int x)] [.int x, v0, v1] m Q := A_iload_n hB_X12_makes dX12_makes_11 rfl
theorem dX12_makes_12 : decode cX12_makes 12 = .ok (.invokevirtual 132, 3) := by decide +kernel
theorem tX12_makes_12 {d : Nat} {l0 l1 : Option Value} {y0 y1 : Value} {a : Nat} {m : jmM} {Q : Option Value → jmM → Prop} : AW d 204 12 [l0, l1] [y0, y1, .ref a] m Q ↔ (mS m a).1 = 12 ∧ CC d 194 [.ref a, y1, y0] m (jK d 204 15 [l0, l1] [] Q) := A_callV hB_X12_makes dX12_makes_12 hO_X12_makes fS_12_132 ⟨Nat.le_of_ble_eq_true rfl, Nat.le_of_ble_eq_true rfl⟩ rfl rfl rfl
theorem dX12_makes_15 : decode cX12_makes 15 = .ok (.ireturn, 1) := by decide +kernel
theorem tX12_makes_15 {d : Nat} {l0 l1 : Option Value} {x : Int32} {m : jmM} {Q : Option Value → jmM → Prop} : AW d 204 15 [l0, l1] [.int x] m Q ↔ jBool x ∧ Q (some (.int x)) m := A_zreturn hB_X12_makes dX12_makes_15 hR_X12_makes
theorem dX12_makes_16 : decode cX12_makes 16 = .ok (.aload_n 0, 1) := by decide +kernel
theorem tX12_makes_16 {d : Nat} {l1 : Option Value} {x : Nat} {m : jmM} {Q : Option Value → jmM → Prop} : AW d 204 16 [some (.ref x), l1] [] m Q ↔ AW d 204 17 [some (.ref x), l1] [.ref x] m Q := A_aload_n hB_X12_makes dX12_makes_16 rfl
theorem dX12_makes_17 : decode cX12_makes 17 = .ok (.dup, 1) := by decide +kernel
theorem tX12_makes_17 {d : Nat} {l0 l1 : Option Value} {x : Nat} {m : jmM} {Q : Option Value → jmM → Prop} : AW d 204 17 [l0, l1] [.ref x] m Q ↔ AW d 204 18 [l0, l1] [.ref x, .ref x] m Q := A_dup_a hB_X12_makes dX12_makes_17
theorem dX12_makes_18 : decode cX12_makes 18 = .ok (.getfield 160, 3) := by decide +kernel
theorem tX12_makes_18 {d : Nat} {l0 l1 : Option Value} {v1 : Value} {a : Nat} {m : jmM} {Q : Option Value → jmM → Prop} : AW d 204 18 [l0, l1] [.ref a, v1] m Q ↔ (mS m a).1 = 12 ∧ AW d 204 21 [l0, l1] [.int (mI m a 15), v1] m Q := A_getfield (f := fun m a => .int (mI m a 15)) hB_X12_makes dX12_makes_18 hO_X12_makes fF_12_160 rfl
theorem dX12_makes_21 : decode cX12_makes 21 = .ok (.iconst 1, 1) := by decide +kernel
theorem tX12_makes_21 {d : Nat} {l0 l1 : Option Value} {v0 v1 : Value} {m : jmM} {Q : Option Value → jmM → Prop} : AW d 204 21 [l0, l1] [v0, v1] m Q ↔ AW d 204 22 [l0, l1] [.int 1, v0, v1] m Q := A_iconst hB_X12_makes dX12_makes_21 (by decide)
theorem dX12_makes_22 : decode cX12_makes 22 = .ok (.iadd, 1) := by decide +kernel
theorem tX12_makes_22 {d : Nat} {l0 l1 : Option Value} {v2 : Value} {x y : Int32} {m : jmM} {Q : Option Value → jmM → Prop} : AW d 204 22 [l0, l1] [.int y, .int x, v2] m Q ↔ AW d 204 23 [l0, l1] [.int (x + y), v2] m Q := A_iadd hB_X12_makes dX12_makes_22
theorem dX12_makes_23 : decode cX12_makes 23 = .ok (.putfield 160, 3) := by decide +kernel
theorem tX12_makes_23 {d : Nat} {l0 l1 : Option Value} {x : Int32} {a : Nat} {m : jmM} {Q : Option Value → jmM → Prop} : AW d 204 23 [l0, l1] [.int x, .ref a] m Q ↔ (mS m a).1 = 12 ∧ AW d 204 26 [l0, l1] [] (cI m a (jup (mI m a) 15 x)) Q := A_putI hB_X12_makes dX12_makes_23 hO_X12_makes fF_12_160 rfl (fun h => Bool.noConfusion h)
theorem dX12_makes_26 : decode cX12_makes 26 = .ok (.iconst 1, 1) := by decide +kernel
theorem tX12_makes_26 {d : Nat} {l0 l1 : Option Value} {m : jmM} {Q : Option Value → jmM → Prop} : AW d 204 26 [l0, l1] [] m Q ↔ AW d 204 27 [l0, l1] [.int 1] m Q := A_iconst hB_X12_makes dX12_makes_26 (by decide)
theorem dX12_makes_27 : decode cX12_makes 27 = .ok (.ireturn, 1) := by decide +kernel
theorem tX12_makes_27 {d : Nat} {l0 l1 : Option Value} {x : Int32} {m : jmM} {Q : Option Value → jmM → Prop} : AW d 204 27 [l0, l1] [.int x] m Q ↔ jBool x ∧ Q (some (.int x)) m := A_zreturn hB_X12_makes dX12_makes_27 hR_X12_makes
theorem hB_X12_opens : jB 205 = cX12_opens := rfl
theorem hO_X12_opens : jO 205 = 12 := rfl
theorem hR_X12_opens : jRt 205 = (some .boolean) := rfl
theorem nX12_opens (d : Nat) (x0 : Nat) (x1 : Int32) (m : jmM) (Q : Option Value → jmM → Prop) : CC (d + 1) 205 [.ref x0, .int x1] m Q ↔ AW d 205 0 [some (.ref x0), some (.int x1)] [] m Q := CC_body (Nat.le_of_ble_eq_true rfl)
theorem dX12_opens_0 : decode cX12_opens 0 = .ok (.aload_n 0, 1) := by decide +kernel
theorem tX12_opens_0 {d : Nat} {l1 : Option Value} {x : Nat} {m : jmM} {Q : Option Value → jmM → Prop} : AW d 205 0 [some (.ref x), l1] [] m Q ↔ AW d 205 1 [some (.ref x), l1] [.ref x] m Q := A_aload_n hB_X12_opens dX12_opens_0 rfl
theorem dX12_opens_1 : decode cX12_opens 1 = .ok (.getfield 163, 3) := by decide +kernel
theorem tX12_opens_1 {d : Nat} {l0 l1 : Option Value} {a : Nat} {m : jmM} {Q : Option Value → jmM → Prop} : AW d 205 1 [l0, l1] [.ref a] m Q ↔ (mS m a).1 = 12 ∧ AW d 205 4 [l0, l1] [.int (mI m a 16)] m Q := A_getfield (f := fun m a => .int (mI m a 16)) hB_X12_opens dX12_opens_1 hO_X12_opens fF_12_163 rfl
theorem dX12_opens_4 : decode cX12_opens 4 = .ok (.bipush 10, 2) := by decide +kernel
theorem tX12_opens_4 {d : Nat} {l0 l1 : Option Value} {v0 : Value} {m : jmM} {Q : Option Value → jmM → Prop} : AW d 205 4 [l0, l1] [v0] m Q ↔ AW d 205 6 [l0, l1] [.int 10, v0] m Q := A_bipush hB_X12_opens dX12_opens_4 rfl
theorem dX12_opens_6 : decode cX12_opens 6 = .ok (.if_icmp .ne 13, 3) := by decide +kernel
theorem tX12_opens_6 {d : Nat} {l0 l1 : Option Value} {x y : Int32} {m : jmM} {Q : Option Value → jmM → Prop} : AW d 205 6 [l0, l1] [.int y, .int x] m Q ↔ if x = y then AW d 205 9 [l0, l1] [] m Q else AW d 205 19 [l0, l1] [] m Q := A_icmp_ne hB_X12_opens dX12_opens_6 (by decide)
theorem dX12_opens_9 : decode cX12_opens 9 = .ok (.aload_n 0, 1) := by decide +kernel
theorem tX12_opens_9 {d : Nat} {l1 : Option Value} {x : Nat} {m : jmM} {Q : Option Value → jmM → Prop} : AW d 205 9 [some (.ref x), l1] [] m Q ↔ AW d 205 10 [some (.ref x), l1] [.ref x] m Q := A_aload_n hB_X12_opens dX12_opens_9 rfl
theorem dX12_opens_10 : decode cX12_opens 10 = .ok (.iconst 2, 1) := by decide +kernel
theorem tX12_opens_10 {d : Nat} {l0 l1 : Option Value} {v0 : Value} {m : jmM} {Q : Option Value → jmM → Prop} : AW d 205 10 [l0, l1] [v0] m Q ↔ AW d 205 11 [l0, l1] [.int 2, v0] m Q := A_iconst hB_X12_opens dX12_opens_10 (by decide)
theorem dX12_opens_11 : decode cX12_opens 11 = .ok (.aload_n 0, 1) := by decide +kernel
theorem tX12_opens_11 {d : Nat} {l1 : Option Value} {v0 v1 : Value} {x : Nat} {m : jmM} {Q : Option Value → jmM → Prop} : AW d 205 11 [some (.ref x), l1] [v0, v1] m Q ↔ AW d 205 12 [some (.ref x), l1] [.ref x, v0, v1] m Q := A_aload_n hB_X12_opens dX12_opens_11 rfl
theorem dX12_opens_12 : decode cX12_opens 12 = .ok (.getfield 111, 3) := by decide +kernel
theorem tX12_opens_12 {d : Nat} {l0 l1 : Option Value} {v1 v2 : Value} {a : Nat} {m : jmM} {Q : Option Value → jmM → Prop} : AW d 205 12 [l0, l1] [.ref a, v1, v2] m Q ↔ (mS m a).1 = 12 ∧ AW d 205 15 [l0, l1] [.int (mI m a 11), v1, v2] m Q := A_getfield (f := fun m a => .int (mI m a 11)) hB_X12_opens dX12_opens_12 hO_X12_opens fF_12_111 rfl
theorem dX12_opens_15 : decode cX12_opens 15 = .ok (.invokevirtual 132, 3) := by decide +kernel
theorem tX12_opens_15 {d : Nat} {l0 l1 : Option Value} {y0 y1 : Value} {a : Nat} {m : jmM} {Q : Option Value → jmM → Prop} : AW d 205 15 [l0, l1] [y0, y1, .ref a] m Q ↔ (mS m a).1 = 12 ∧ CC d 194 [.ref a, y1, y0] m (jK d 205 18 [l0, l1] [] Q) := A_callV hB_X12_opens dX12_opens_15 hO_X12_opens fS_12_132 ⟨Nat.le_of_ble_eq_true rfl, Nat.le_of_ble_eq_true rfl⟩ rfl rfl rfl
theorem dX12_opens_18 : decode cX12_opens 18 = .ok (.ireturn, 1) := by decide +kernel
theorem tX12_opens_18 {d : Nat} {l0 l1 : Option Value} {x : Int32} {m : jmM} {Q : Option Value → jmM → Prop} : AW d 205 18 [l0, l1] [.int x] m Q ↔ jBool x ∧ Q (some (.int x)) m := A_zreturn hB_X12_opens dX12_opens_18 hR_X12_opens
theorem dX12_opens_19 : decode cX12_opens 19 = .ok (.aload_n 0, 1) := by decide +kernel
theorem tX12_opens_19 {d : Nat} {l1 : Option Value} {x : Nat} {m : jmM} {Q : Option Value → jmM → Prop} : AW d 205 19 [some (.ref x), l1] [] m Q ↔ AW d 205 20 [some (.ref x), l1] [.ref x] m Q := A_aload_n hB_X12_opens dX12_opens_19 rfl
theorem dX12_opens_20 : decode cX12_opens 20 = .ok (.dup, 1) := by decide +kernel
theorem tX12_opens_20 {d : Nat} {l0 l1 : Option Value} {x : Nat} {m : jmM} {Q : Option Value → jmM → Prop} : AW d 205 20 [l0, l1] [.ref x] m Q ↔ AW d 205 21 [l0, l1] [.ref x, .ref x] m Q := A_dup_a hB_X12_opens dX12_opens_20
theorem dX12_opens_21 : decode cX12_opens 21 = .ok (.getfield 163, 3) := by decide +kernel
theorem tX12_opens_21 {d : Nat} {l0 l1 : Option Value} {v1 : Value} {a : Nat} {m : jmM} {Q : Option Value → jmM → Prop} : AW d 205 21 [l0, l1] [.ref a, v1] m Q ↔ (mS m a).1 = 12 ∧ AW d 205 24 [l0, l1] [.int (mI m a 16), v1] m Q := A_getfield (f := fun m a => .int (mI m a 16)) hB_X12_opens dX12_opens_21 hO_X12_opens fF_12_163 rfl
theorem dX12_opens_24 : decode cX12_opens 24 = .ok (.iconst 1, 1) := by decide +kernel
theorem tX12_opens_24 {d : Nat} {l0 l1 : Option Value} {v0 v1 : Value} {m : jmM} {Q : Option Value → jmM → Prop} : AW d 205 24 [l0, l1] [v0, v1] m Q ↔ AW d 205 25 [l0, l1] [.int 1, v0, v1] m Q := A_iconst hB_X12_opens dX12_opens_24 (by decide)
theorem dX12_opens_25 : decode cX12_opens 25 = .ok (.iadd, 1) := by decide +kernel
theorem tX12_opens_25 {d : Nat} {l0 l1 : Option Value} {v2 : Value} {x y : Int32} {m : jmM} {Q : Option Value → jmM → Prop} : AW d 205 25 [l0, l1] [.int y, .int x, v2] m Q ↔ AW d 205 26 [l0, l1] [.int (x + y), v2] m Q := A_iadd hB_X12_opens dX12_opens_25
theorem dX12_opens_26 : decode cX12_opens 26 = .ok (.putfield 163, 3) := by decide +kernel
theorem tX12_opens_26 {d : Nat} {l0 l1 : Option Value} {x : Int32} {a : Nat} {m : jmM} {Q : Option Value → jmM → Prop} : AW d 205 26 [l0, l1] [.int x, .ref a] m Q ↔ (mS m a).1 = 12 ∧ AW d 205 29 [l0, l1] [] (cI m a (jup (mI m a) 16 x)) Q := A_putI hB_X12_opens dX12_opens_26 hO_X12_opens fF_12_163 rfl (fun h => Bool.noConfusion h)
theorem dX12_opens_29 : decode cX12_opens 29 = .ok (.aload_n 0, 1) := by decide +kernel
theorem tX12_opens_29 {d : Nat} {l1 : Option Value} {x : Nat} {m : jmM} {Q : Option Value → jmM → Prop} : AW d 205 29 [some (.ref x), l1] [] m Q ↔ AW d 205 30 [some (.ref x), l1] [.ref x] m Q := A_aload_n hB_X12_opens dX12_opens_29 rfl
theorem dX12_opens_30 : decode cX12_opens 30 = .ok (.getfield 35, 3) := by decide +kernel
theorem tX12_opens_30 {d : Nat} {l0 l1 : Option Value} {a : Nat} {m : jmM} {Q : Option Value → jmM → Prop} : AW d 205 30 [l0, l1] [.ref a] m Q ↔ (mS m a).1 = 12 ∧ AW d 205 33 [l0, l1] [va_rf (mR m a 17)] m Q := A_getfield (f := fun m a => va_rf (mR m a 17)) hB_X12_opens dX12_opens_30 hO_X12_opens fF_12_35 rfl
theorem dX12_opens_33 : decode cX12_opens 33 = .ok (.aload_n 0, 1) := by decide +kernel
theorem tX12_opens_33 {d : Nat} {l1 : Option Value} {v0 : Value} {x : Nat} {m : jmM} {Q : Option Value → jmM → Prop} : AW d 205 33 [some (.ref x), l1] [v0] m Q ↔ AW d 205 34 [some (.ref x), l1] [.ref x, v0] m Q := A_aload_n hB_X12_opens dX12_opens_33 rfl
theorem dX12_opens_34 : decode cX12_opens 34 = .ok (.getfield 166, 3) := by decide +kernel
theorem tX12_opens_34 {d : Nat} {l0 l1 : Option Value} {v1 : Value} {a : Nat} {m : jmM} {Q : Option Value → jmM → Prop} : AW d 205 34 [l0, l1] [.ref a, v1] m Q ↔ (mS m a).1 = 12 ∧ AW d 205 37 [l0, l1] [.int (mI m a 18), v1] m Q := A_getfield (f := fun m a => .int (mI m a 18)) hB_X12_opens dX12_opens_34 hO_X12_opens fF_12_166 rfl
theorem dX12_opens_37 : decode cX12_opens 37 = .ok (.iload_n 1, 1) := by decide +kernel
theorem tX12_opens_37 {d : Nat} {l0 : Option Value} {v0 v1 : Value} {x : Int32} {m : jmM} {Q : Option Value → jmM → Prop} : AW d 205 37 [l0, some (.int x)] [v0, v1] m Q ↔ AW d 205 38 [l0, some (.int x)] [.int x, v0, v1] m Q := A_iload_n hB_X12_opens dX12_opens_37 rfl
theorem dX12_opens_38 : decode cX12_opens 38 = .ok (.iastore, 1) := by decide +kernel
theorem tX12_opens_38 {d : Nat} {l0 l1 : Option Value} {x i : Int32} {a : Nat} {m : jmM} {Q : Option Value → jmM → Prop} : AW d 205 38 [l0, l1] [.int x, .int i, .ref a] m Q ↔ ((mS m a).1 = 20 ∧ jIx i (mS m a).2) ∧ AW d 205 39 [l0, l1] [] (cI m a (jup (mI m a) (jx i) x)) Q := A_iastore hB_X12_opens dX12_opens_38
theorem dX12_opens_39 : decode cX12_opens 39 = .ok (.aload_n 0, 1) := by decide +kernel
theorem tX12_opens_39 {d : Nat} {l1 : Option Value} {x : Nat} {m : jmM} {Q : Option Value → jmM → Prop} : AW d 205 39 [some (.ref x), l1] [] m Q ↔ AW d 205 40 [some (.ref x), l1] [.ref x] m Q := A_aload_n hB_X12_opens dX12_opens_39 rfl
theorem dX12_opens_40 : decode cX12_opens 40 = .ok (.dup, 1) := by decide +kernel
theorem tX12_opens_40 {d : Nat} {l0 l1 : Option Value} {x : Nat} {m : jmM} {Q : Option Value → jmM → Prop} : AW d 205 40 [l0, l1] [.ref x] m Q ↔ AW d 205 41 [l0, l1] [.ref x, .ref x] m Q := A_dup_a hB_X12_opens dX12_opens_40
theorem dX12_opens_41 : decode cX12_opens 41 = .ok (.getfield 166, 3) := by decide +kernel
theorem tX12_opens_41 {d : Nat} {l0 l1 : Option Value} {v1 : Value} {a : Nat} {m : jmM} {Q : Option Value → jmM → Prop} : AW d 205 41 [l0, l1] [.ref a, v1] m Q ↔ (mS m a).1 = 12 ∧ AW d 205 44 [l0, l1] [.int (mI m a 18), v1] m Q := A_getfield (f := fun m a => .int (mI m a 18)) hB_X12_opens dX12_opens_41 hO_X12_opens fF_12_166 rfl
theorem dX12_opens_44 : decode cX12_opens 44 = .ok (.iconst 1, 1) := by decide +kernel
theorem tX12_opens_44 {d : Nat} {l0 l1 : Option Value} {v0 v1 : Value} {m : jmM} {Q : Option Value → jmM → Prop} : AW d 205 44 [l0, l1] [v0, v1] m Q ↔ AW d 205 45 [l0, l1] [.int 1, v0, v1] m Q := A_iconst hB_X12_opens dX12_opens_44 (by decide)
theorem dX12_opens_45 : decode cX12_opens 45 = .ok (.iadd, 1) := by decide +kernel
theorem tX12_opens_45 {d : Nat} {l0 l1 : Option Value} {v2 : Value} {x y : Int32} {m : jmM} {Q : Option Value → jmM → Prop} : AW d 205 45 [l0, l1] [.int y, .int x, v2] m Q ↔ AW d 205 46 [l0, l1] [.int (x + y), v2] m Q := A_iadd hB_X12_opens dX12_opens_45
theorem dX12_opens_46 : decode cX12_opens 46 = .ok (.putfield 166, 3) := by decide +kernel
theorem tX12_opens_46 {d : Nat} {l0 l1 : Option Value} {x : Int32} {a : Nat} {m : jmM} {Q : Option Value → jmM → Prop} : AW d 205 46 [l0, l1] [.int x, .ref a] m Q ↔ (mS m a).1 = 12 ∧ AW d 205 49 [l0, l1] [] (cI m a (jup (mI m a) 18 x)) Q := A_putI hB_X12_opens dX12_opens_46 hO_X12_opens fF_12_166 rfl (fun h => Bool.noConfusion h)
theorem dX12_opens_49 : decode cX12_opens 49 = .ok (.iconst 1, 1) := by decide +kernel
theorem tX12_opens_49 {d : Nat} {l0 l1 : Option Value} {m : jmM} {Q : Option Value → jmM → Prop} : AW d 205 49 [l0, l1] [] m Q ↔ AW d 205 50 [l0, l1] [.int 1] m Q := A_iconst hB_X12_opens dX12_opens_49 (by decide)
theorem dX12_opens_50 : decode cX12_opens 50 = .ok (.ireturn, 1) := by decide +kernel
theorem tX12_opens_50 {d : Nat} {l0 l1 : Option Value} {x : Int32} {m : jmM} {Q : Option Value → jmM → Prop} : AW d 205 50 [l0, l1] [.int x] m Q ↔ jBool x ∧ Q (some (.int x)) m := A_zreturn hB_X12_opens dX12_opens_50 hR_X12_opens
theorem hB_X12_strength : jB 206 = cX12_strength := rfl
theorem hO_X12_strength : jO 206 = 12 := rfl
theorem hR_X12_strength : jRt 206 = (some .int) := rfl
theorem nX12_strength (d : Nat) (x0 : Int32) (m : jmM) (Q : Option Value → jmM → Prop) : CC (d + 1) 206 [.int x0] m Q ↔ AW d 206 0 [some (.int x0)] [] m Q := CC_body (Nat.le_of_ble_eq_true rfl)
theorem dX12_strength_0 : decode cX12_strength 0 = .ok (.iload_n 0, 1) := by decide +kernel
theorem tX12_strength_0 {d : Nat} {x : Int32} {m : jmM} {Q : Option Value → jmM → Prop} : AW d 206 0 [some (.int x)] [] m Q ↔ AW d 206 1 [some (.int x)] [.int x] m Q := A_iload_n hB_X12_strength dX12_strength_0 rfl
theorem dX12_strength_1 : decode cX12_strength 1 = .ok (.bipush 13, 2) := by decide +kernel
theorem tX12_strength_1 {d : Nat} {l0 : Option Value} {v0 : Value} {m : jmM} {Q : Option Value → jmM → Prop} : AW d 206 1 [l0] [v0] m Q ↔ AW d 206 3 [l0] [.int 13, v0] m Q := A_bipush hB_X12_strength dX12_strength_1 rfl
theorem dX12_strength_3 : decode cX12_strength 3 = .ok (.if_icmp .ne 7, 3) := by decide +kernel
theorem tX12_strength_3 {d : Nat} {l0 : Option Value} {x y : Int32} {m : jmM} {Q : Option Value → jmM → Prop} : AW d 206 3 [l0] [.int y, .int x] m Q ↔ if x = y then AW d 206 6 [l0] [] m Q else AW d 206 10 [l0] [] m Q := A_icmp_ne hB_X12_strength dX12_strength_3 (by decide)
theorem dX12_strength_6 : decode cX12_strength 6 = .ok (.iconst 1, 1) := by decide +kernel
theorem tX12_strength_6 {d : Nat} {l0 : Option Value} {m : jmM} {Q : Option Value → jmM → Prop} : AW d 206 6 [l0] [] m Q ↔ AW d 206 7 [l0] [.int 1] m Q := A_iconst hB_X12_strength dX12_strength_6 (by decide)
theorem dX12_strength_7 : decode cX12_strength 7 = .ok (.goto 53, 3) := by decide +kernel
theorem tX12_strength_7 {d : Nat} {l0 : Option Value} {v0 : Value} {m : jmM} {Q : Option Value → jmM → Prop} : AW d 206 7 [l0] [v0] m Q ↔ AW d 206 60 [l0] [v0] m Q := A_goto hB_X12_strength dX12_strength_7 (by decide)
theorem dX12_strength_10 : decode cX12_strength 10 = .ok (.iload_n 0, 1) := by decide +kernel
theorem tX12_strength_10 {d : Nat} {x : Int32} {m : jmM} {Q : Option Value → jmM → Prop} : AW d 206 10 [some (.int x)] [] m Q ↔ AW d 206 11 [some (.int x)] [.int x] m Q := A_iload_n hB_X12_strength dX12_strength_10 rfl
theorem dX12_strength_11 : decode cX12_strength 11 = .ok (.bipush 12, 2) := by decide +kernel
theorem tX12_strength_11 {d : Nat} {l0 : Option Value} {v0 : Value} {m : jmM} {Q : Option Value → jmM → Prop} : AW d 206 11 [l0] [v0] m Q ↔ AW d 206 13 [l0] [.int 12, v0] m Q := A_bipush hB_X12_strength dX12_strength_11 rfl
theorem dX12_strength_13 : decode cX12_strength 13 = .ok (.if_icmp .ne 7, 3) := by decide +kernel
theorem tX12_strength_13 {d : Nat} {l0 : Option Value} {x y : Int32} {m : jmM} {Q : Option Value → jmM → Prop} : AW d 206 13 [l0] [.int y, .int x] m Q ↔ if x = y then AW d 206 16 [l0] [] m Q else AW d 206 20 [l0] [] m Q := A_icmp_ne hB_X12_strength dX12_strength_13 (by decide)
theorem dX12_strength_16 : decode cX12_strength 16 = .ok (.iconst 2, 1) := by decide +kernel
theorem tX12_strength_16 {d : Nat} {l0 : Option Value} {m : jmM} {Q : Option Value → jmM → Prop} : AW d 206 16 [l0] [] m Q ↔ AW d 206 17 [l0] [.int 2] m Q := A_iconst hB_X12_strength dX12_strength_16 (by decide)
theorem dX12_strength_17 : decode cX12_strength 17 = .ok (.goto 43, 3) := by decide +kernel
theorem tX12_strength_17 {d : Nat} {l0 : Option Value} {v0 : Value} {m : jmM} {Q : Option Value → jmM → Prop} : AW d 206 17 [l0] [v0] m Q ↔ AW d 206 60 [l0] [v0] m Q := A_goto hB_X12_strength dX12_strength_17 (by decide)
theorem dX12_strength_20 : decode cX12_strength 20 = .ok (.iload_n 0, 1) := by decide +kernel
theorem tX12_strength_20 {d : Nat} {x : Int32} {m : jmM} {Q : Option Value → jmM → Prop} : AW d 206 20 [some (.int x)] [] m Q ↔ AW d 206 21 [some (.int x)] [.int x] m Q := A_iload_n hB_X12_strength dX12_strength_20 rfl
theorem dX12_strength_21 : decode cX12_strength 21 = .ok (.bipush 11, 2) := by decide +kernel
theorem tX12_strength_21 {d : Nat} {l0 : Option Value} {v0 : Value} {m : jmM} {Q : Option Value → jmM → Prop} : AW d 206 21 [l0] [v0] m Q ↔ AW d 206 23 [l0] [.int 11, v0] m Q := A_bipush hB_X12_strength dX12_strength_21 rfl
theorem dX12_strength_23 : decode cX12_strength 23 = .ok (.if_icmp .ne 7, 3) := by decide +kernel
theorem tX12_strength_23 {d : Nat} {l0 : Option Value} {x y : Int32} {m : jmM} {Q : Option Value → jmM → Prop} : AW d 206 23 [l0] [.int y, .int x] m Q ↔ if x = y then AW d 206 26 [l0] [] m Q else AW d 206 30 [l0] [] m Q := A_icmp_ne hB_X12_strength dX12_strength_23 (by decide)
theorem dX12_strength_26 : decode cX12_strength 26 = .ok (.iconst 3, 1) := by decide +kernel
theorem tX12_strength_26 {d : Nat} {l0 : Option Value} {m : jmM} {Q : Option Value → jmM → Prop} : AW d 206 26 [l0] [] m Q ↔ AW d 206 27 [l0] [.int 3] m Q := A_iconst hB_X12_strength dX12_strength_26 (by decide)
theorem dX12_strength_27 : decode cX12_strength 27 = .ok (.goto 33, 3) := by decide +kernel
theorem tX12_strength_27 {d : Nat} {l0 : Option Value} {v0 : Value} {m : jmM} {Q : Option Value → jmM → Prop} : AW d 206 27 [l0] [v0] m Q ↔ AW d 206 60 [l0] [v0] m Q := A_goto hB_X12_strength dX12_strength_27 (by decide)
theorem dX12_strength_30 : decode cX12_strength 30 = .ok (.iload_n 0, 1) := by decide +kernel
theorem tX12_strength_30 {d : Nat} {x : Int32} {m : jmM} {Q : Option Value → jmM → Prop} : AW d 206 30 [some (.int x)] [] m Q ↔ AW d 206 31 [some (.int x)] [.int x] m Q := A_iload_n hB_X12_strength dX12_strength_30 rfl
theorem dX12_strength_31 : decode cX12_strength 31 = .ok (.iconst 2, 1) := by decide +kernel
theorem tX12_strength_31 {d : Nat} {l0 : Option Value} {v0 : Value} {m : jmM} {Q : Option Value → jmM → Prop} : AW d 206 31 [l0] [v0] m Q ↔ AW d 206 32 [l0] [.int 2, v0] m Q := A_iconst hB_X12_strength dX12_strength_31 (by decide)
theorem dX12_strength_32 : decode cX12_strength 32 = .ok (.if_icmp .eq 8, 3) := by decide +kernel
theorem tX12_strength_32 {d : Nat} {l0 : Option Value} {x y : Int32} {m : jmM} {Q : Option Value → jmM → Prop} : AW d 206 32 [l0] [.int y, .int x] m Q ↔ if x = y then AW d 206 40 [l0] [] m Q else AW d 206 35 [l0] [] m Q := A_icmp_eq hB_X12_strength dX12_strength_32 (by decide)
theorem dX12_strength_35 : decode cX12_strength 35 = .ok (.iload_n 0, 1) := by decide +kernel
theorem tX12_strength_35 {d : Nat} {x : Int32} {m : jmM} {Q : Option Value → jmM → Prop} : AW d 206 35 [some (.int x)] [] m Q ↔ AW d 206 36 [some (.int x)] [.int x] m Q := A_iload_n hB_X12_strength dX12_strength_35 rfl
theorem dX12_strength_36 : decode cX12_strength 36 = .ok (.iconst 3, 1) := by decide +kernel
theorem tX12_strength_36 {d : Nat} {l0 : Option Value} {v0 : Value} {m : jmM} {Q : Option Value → jmM → Prop} : AW d 206 36 [l0] [v0] m Q ↔ AW d 206 37 [l0] [.int 3, v0] m Q := A_iconst hB_X12_strength dX12_strength_36 (by decide)
theorem dX12_strength_37 : decode cX12_strength 37 = .ok (.if_icmp .ne 7, 3) := by decide +kernel
theorem tX12_strength_37 {d : Nat} {l0 : Option Value} {x y : Int32} {m : jmM} {Q : Option Value → jmM → Prop} : AW d 206 37 [l0] [.int y, .int x] m Q ↔ if x = y then AW d 206 40 [l0] [] m Q else AW d 206 44 [l0] [] m Q := A_icmp_ne hB_X12_strength dX12_strength_37 (by decide)
theorem dX12_strength_40 : decode cX12_strength 40 = .ok (.iconst 5, 1) := by decide +kernel
theorem tX12_strength_40 {d : Nat} {l0 : Option Value} {m : jmM} {Q : Option Value → jmM → Prop} : AW d 206 40 [l0] [] m Q ↔ AW d 206 41 [l0] [.int 5] m Q := A_iconst hB_X12_strength dX12_strength_40 (by decide)
theorem dX12_strength_41 : decode cX12_strength 41 = .ok (.goto 19, 3) := by decide +kernel
theorem tX12_strength_41 {d : Nat} {l0 : Option Value} {v0 : Value} {m : jmM} {Q : Option Value → jmM → Prop} : AW d 206 41 [l0] [v0] m Q ↔ AW d 206 60 [l0] [v0] m Q := A_goto hB_X12_strength dX12_strength_41 (by decide)
theorem dX12_strength_44 : decode cX12_strength 44 = .ok (.iload_n 0, 1) := by decide +kernel
theorem tX12_strength_44 {d : Nat} {x : Int32} {m : jmM} {Q : Option Value → jmM → Prop} : AW d 206 44 [some (.int x)] [] m Q ↔ AW d 206 45 [some (.int x)] [.int x] m Q := A_iload_n hB_X12_strength dX12_strength_44 rfl
theorem dX12_strength_45 : decode cX12_strength 45 = .ok (.iconst 4, 1) := by decide +kernel
theorem tX12_strength_45 {d : Nat} {l0 : Option Value} {v0 : Value} {m : jmM} {Q : Option Value → jmM → Prop} : AW d 206 45 [l0] [v0] m Q ↔ AW d 206 46 [l0] [.int 4, v0] m Q := A_iconst hB_X12_strength dX12_strength_45 (by decide)
theorem dX12_strength_46 : decode cX12_strength 46 = .ok (.if_icmp .eq 8, 3) := by decide +kernel
theorem tX12_strength_46 {d : Nat} {l0 : Option Value} {x y : Int32} {m : jmM} {Q : Option Value → jmM → Prop} : AW d 206 46 [l0] [.int y, .int x] m Q ↔ if x = y then AW d 206 54 [l0] [] m Q else AW d 206 49 [l0] [] m Q := A_icmp_eq hB_X12_strength dX12_strength_46 (by decide)
theorem dX12_strength_49 : decode cX12_strength 49 = .ok (.iload_n 0, 1) := by decide +kernel
theorem tX12_strength_49 {d : Nat} {x : Int32} {m : jmM} {Q : Option Value → jmM → Prop} : AW d 206 49 [some (.int x)] [] m Q ↔ AW d 206 50 [some (.int x)] [.int x] m Q := A_iload_n hB_X12_strength dX12_strength_49 rfl
theorem dX12_strength_50 : decode cX12_strength 50 = .ok (.iconst 5, 1) := by decide +kernel
theorem tX12_strength_50 {d : Nat} {l0 : Option Value} {v0 : Value} {m : jmM} {Q : Option Value → jmM → Prop} : AW d 206 50 [l0] [v0] m Q ↔ AW d 206 51 [l0] [.int 5, v0] m Q := A_iconst hB_X12_strength dX12_strength_50 (by decide)
theorem dX12_strength_51 : decode cX12_strength 51 = .ok (.if_icmp .ne 8, 3) := by decide +kernel
theorem tX12_strength_51 {d : Nat} {l0 : Option Value} {x y : Int32} {m : jmM} {Q : Option Value → jmM → Prop} : AW d 206 51 [l0] [.int y, .int x] m Q ↔ if x = y then AW d 206 54 [l0] [] m Q else AW d 206 59 [l0] [] m Q := A_icmp_ne hB_X12_strength dX12_strength_51 (by decide)
theorem dX12_strength_54 : decode cX12_strength 54 = .ok (.bipush 6, 2) := by decide +kernel
theorem tX12_strength_54 {d : Nat} {l0 : Option Value} {m : jmM} {Q : Option Value → jmM → Prop} : AW d 206 54 [l0] [] m Q ↔ AW d 206 56 [l0] [.int 6] m Q := A_bipush hB_X12_strength dX12_strength_54 rfl
theorem dX12_strength_56 : decode cX12_strength 56 = .ok (.goto 4, 3) := by decide +kernel
theorem tX12_strength_56 {d : Nat} {l0 : Option Value} {v0 : Value} {m : jmM} {Q : Option Value → jmM → Prop} : AW d 206 56 [l0] [v0] m Q ↔ AW d 206 60 [l0] [v0] m Q := A_goto hB_X12_strength dX12_strength_56 (by decide)
theorem dX12_strength_59 : decode cX12_strength 59 = .ok (.iconst 0, 1) := by decide +kernel
theorem tX12_strength_59 {d : Nat} {l0 : Option Value} {m : jmM} {Q : Option Value → jmM → Prop} : AW d 206 59 [l0] [] m Q ↔ AW d 206 60 [l0] [.int 0] m Q := A_iconst hB_X12_strength dX12_strength_59 (by decide)
theorem dX12_strength_60 : decode cX12_strength 60 = .ok (.ireturn, 1) := by decide +kernel
theorem tX12_strength_60 {d : Nat} {l0 : Option Value} {x : Int32} {m : jmM} {Q : Option Value → jmM → Prop} : AW d 206 60 [l0] [.int x] m Q ↔ Q (some (.int x)) m := A_ireturn hB_X12_strength dX12_strength_60 hR_X12_strength
theorem hB_X12_settles : jB 207 = cX12_settles := rfl
theorem hO_X12_settles : jO 207 = 12 := rfl
theorem hR_X12_settles : jRt 207 = none := rfl
theorem nX12_settles (d : Nat) (x0 : Nat) (x1 : Int32) (x2 : Int32) (m : jmM) (Q : Option Value → jmM → Prop) : CC (d + 1) 207 [.ref x0, .int x1, .int x2] m Q ↔ AW d 207 0 [some (.ref x0), some (.int x1), some (.int x2)] [] m Q := CC_body (Nat.le_of_ble_eq_true rfl)
theorem dX12_settles_0 : decode cX12_settles 0 = .ok (.aload_n 0, 1) := by decide +kernel
theorem tX12_settles_0 {d : Nat} {l1 l2 : Option Value} {x : Nat} {m : jmM} {Q : Option Value → jmM → Prop} : AW d 207 0 [some (.ref x), l1, l2] [] m Q ↔ AW d 207 1 [some (.ref x), l1, l2] [.ref x] m Q := A_aload_n hB_X12_settles dX12_settles_0 rfl
theorem dX12_settles_1 : decode cX12_settles 1 = .ok (.getfield 166, 3) := by decide +kernel
theorem tX12_settles_1 {d : Nat} {l0 l1 l2 : Option Value} {a : Nat} {m : jmM} {Q : Option Value → jmM → Prop} : AW d 207 1 [l0, l1, l2] [.ref a] m Q ↔ (mS m a).1 = 12 ∧ AW d 207 4 [l0, l1, l2] [.int (mI m a 18)] m Q := A_getfield (f := fun m a => .int (mI m a 18)) hB_X12_settles dX12_settles_1 hO_X12_settles fF_12_166 rfl
theorem dX12_settles_4 : decode cX12_settles 4 = .ok (.iload_n 2, 1) := by decide +kernel
theorem tX12_settles_4 {d : Nat} {l0 l1 : Option Value} {v0 : Value} {x : Int32} {m : jmM} {Q : Option Value → jmM → Prop} : AW d 207 4 [l0, l1, some (.int x)] [v0] m Q ↔ AW d 207 5 [l0, l1, some (.int x)] [.int x, v0] m Q := A_iload_n hB_X12_settles dX12_settles_4 rfl
theorem dX12_settles_5 : decode cX12_settles 5 = .ok (.if_icmp .le 72, 3) := by decide +kernel
theorem tX12_settles_5 {d : Nat} {l0 l1 l2 : Option Value} {x y : Int32} {m : jmM} {Q : Option Value → jmM → Prop} : AW d 207 5 [l0, l1, l2] [.int y, .int x] m Q ↔ if x ≤ y then AW d 207 77 [l0, l1, l2] [] m Q else AW d 207 8 [l0, l1, l2] [] m Q := A_icmp_le hB_X12_settles dX12_settles_5 (by decide)
theorem dX12_settles_8 : decode cX12_settles 8 = .ok (.aload_n 0, 1) := by decide +kernel
theorem tX12_settles_8 {d : Nat} {l1 l2 : Option Value} {x : Nat} {m : jmM} {Q : Option Value → jmM → Prop} : AW d 207 8 [some (.ref x), l1, l2] [] m Q ↔ AW d 207 9 [some (.ref x), l1, l2] [.ref x] m Q := A_aload_n hB_X12_settles dX12_settles_8 rfl
theorem dX12_settles_9 : decode cX12_settles 9 = .ok (.getfield 35, 3) := by decide +kernel
theorem tX12_settles_9 {d : Nat} {l0 l1 l2 : Option Value} {a : Nat} {m : jmM} {Q : Option Value → jmM → Prop} : AW d 207 9 [l0, l1, l2] [.ref a] m Q ↔ (mS m a).1 = 12 ∧ AW d 207 12 [l0, l1, l2] [va_rf (mR m a 17)] m Q := A_getfield (f := fun m a => va_rf (mR m a 17)) hB_X12_settles dX12_settles_9 hO_X12_settles fF_12_35 rfl
theorem dX12_settles_12 : decode cX12_settles 12 = .ok (.aload_n 0, 1) := by decide +kernel
theorem tX12_settles_12 {d : Nat} {l1 l2 : Option Value} {v0 : Value} {x : Nat} {m : jmM} {Q : Option Value → jmM → Prop} : AW d 207 12 [some (.ref x), l1, l2] [v0] m Q ↔ AW d 207 13 [some (.ref x), l1, l2] [.ref x, v0] m Q := A_aload_n hB_X12_settles dX12_settles_12 rfl
theorem dX12_settles_13 : decode cX12_settles 13 = .ok (.getfield 166, 3) := by decide +kernel
theorem tX12_settles_13 {d : Nat} {l0 l1 l2 : Option Value} {v1 : Value} {a : Nat} {m : jmM} {Q : Option Value → jmM → Prop} : AW d 207 13 [l0, l1, l2] [.ref a, v1] m Q ↔ (mS m a).1 = 12 ∧ AW d 207 16 [l0, l1, l2] [.int (mI m a 18), v1] m Q := A_getfield (f := fun m a => .int (mI m a 18)) hB_X12_settles dX12_settles_13 hO_X12_settles fF_12_166 rfl
theorem dX12_settles_16 : decode cX12_settles 16 = .ok (.iconst 1, 1) := by decide +kernel
theorem tX12_settles_16 {d : Nat} {l0 l1 l2 : Option Value} {v0 v1 : Value} {m : jmM} {Q : Option Value → jmM → Prop} : AW d 207 16 [l0, l1, l2] [v0, v1] m Q ↔ AW d 207 17 [l0, l1, l2] [.int 1, v0, v1] m Q := A_iconst hB_X12_settles dX12_settles_16 (by decide)
theorem dX12_settles_17 : decode cX12_settles 17 = .ok (.isub, 1) := by decide +kernel
theorem tX12_settles_17 {d : Nat} {l0 l1 l2 : Option Value} {v2 : Value} {x y : Int32} {m : jmM} {Q : Option Value → jmM → Prop} : AW d 207 17 [l0, l1, l2] [.int y, .int x, v2] m Q ↔ AW d 207 18 [l0, l1, l2] [.int (x - y), v2] m Q := A_isub hB_X12_settles dX12_settles_17
theorem dX12_settles_18 : decode cX12_settles 18 = .ok (.iaload, 1) := by decide +kernel
theorem tX12_settles_18 {d : Nat} {l0 l1 l2 : Option Value} {i : Int32} {a : Nat} {m : jmM} {Q : Option Value → jmM → Prop} : AW d 207 18 [l0, l1, l2] [.int i, .ref a] m Q ↔ (((mS m a).1 = 20 ∨ a = jScr) ∧ jIx i (mS m a).2) ∧ AW d 207 19 [l0, l1, l2] [.int (mI m a (jx i))] m Q := A_iaload hB_X12_settles dX12_settles_18
theorem dX12_settles_19 : decode cX12_settles 19 = .ok (.invokestatic 169, 3) := by decide +kernel
theorem tX12_settles_19 {d : Nat} {l0 l1 l2 : Option Value} {y0 : Value} {m : jmM} {Q : Option Value → jmM → Prop} : AW d 207 19 [l0, l1, l2] [y0] m Q ↔ CC d 206 [y0] m (jK d 207 22 [l0, l1, l2] [] Q) := A_callS0 hB_X12_settles dX12_settles_19 hO_X12_settles fS_12_169 ⟨Nat.le_of_ble_eq_true rfl, Nat.le_of_ble_eq_true rfl⟩ rfl rfl
theorem dX12_settles_22 : decode cX12_settles 22 = .ok (.iload_n 1, 1) := by decide +kernel
theorem tX12_settles_22 {d : Nat} {l0 l2 : Option Value} {v0 : Value} {x : Int32} {m : jmM} {Q : Option Value → jmM → Prop} : AW d 207 22 [l0, some (.int x), l2] [v0] m Q ↔ AW d 207 23 [l0, some (.int x), l2] [.int x, v0] m Q := A_iload_n hB_X12_settles dX12_settles_22 rfl
theorem dX12_settles_23 : decode cX12_settles 23 = .ok (.if_icmp .lt 54, 3) := by decide +kernel
theorem tX12_settles_23 {d : Nat} {l0 l1 l2 : Option Value} {x y : Int32} {m : jmM} {Q : Option Value → jmM → Prop} : AW d 207 23 [l0, l1, l2] [.int y, .int x] m Q ↔ if x < y then AW d 207 77 [l0, l1, l2] [] m Q else AW d 207 26 [l0, l1, l2] [] m Q := A_icmp_lt hB_X12_settles dX12_settles_23 (by decide)
theorem dX12_settles_26 : decode cX12_settles 26 = .ok (.aload_n 0, 1) := by decide +kernel
theorem tX12_settles_26 {d : Nat} {l1 l2 : Option Value} {x : Nat} {m : jmM} {Q : Option Value → jmM → Prop} : AW d 207 26 [some (.ref x), l1, l2] [] m Q ↔ AW d 207 27 [some (.ref x), l1, l2] [.ref x] m Q := A_aload_n hB_X12_settles dX12_settles_26 rfl
theorem dX12_settles_27 : decode cX12_settles 27 = .ok (.dup, 1) := by decide +kernel
theorem tX12_settles_27 {d : Nat} {l0 l1 l2 : Option Value} {x : Nat} {m : jmM} {Q : Option Value → jmM → Prop} : AW d 207 27 [l0, l1, l2] [.ref x] m Q ↔ AW d 207 28 [l0, l1, l2] [.ref x, .ref x] m Q := A_dup_a hB_X12_settles dX12_settles_27
theorem dX12_settles_28 : decode cX12_settles 28 = .ok (.getfield 166, 3) := by decide +kernel
theorem tX12_settles_28 {d : Nat} {l0 l1 l2 : Option Value} {v1 : Value} {a : Nat} {m : jmM} {Q : Option Value → jmM → Prop} : AW d 207 28 [l0, l1, l2] [.ref a, v1] m Q ↔ (mS m a).1 = 12 ∧ AW d 207 31 [l0, l1, l2] [.int (mI m a 18), v1] m Q := A_getfield (f := fun m a => .int (mI m a 18)) hB_X12_settles dX12_settles_28 hO_X12_settles fF_12_166 rfl
theorem dX12_settles_31 : decode cX12_settles 31 = .ok (.iconst 1, 1) := by decide +kernel
theorem tX12_settles_31 {d : Nat} {l0 l1 l2 : Option Value} {v0 v1 : Value} {m : jmM} {Q : Option Value → jmM → Prop} : AW d 207 31 [l0, l1, l2] [v0, v1] m Q ↔ AW d 207 32 [l0, l1, l2] [.int 1, v0, v1] m Q := A_iconst hB_X12_settles dX12_settles_31 (by decide)
theorem dX12_settles_32 : decode cX12_settles 32 = .ok (.isub, 1) := by decide +kernel
theorem tX12_settles_32 {d : Nat} {l0 l1 l2 : Option Value} {v2 : Value} {x y : Int32} {m : jmM} {Q : Option Value → jmM → Prop} : AW d 207 32 [l0, l1, l2] [.int y, .int x, v2] m Q ↔ AW d 207 33 [l0, l1, l2] [.int (x - y), v2] m Q := A_isub hB_X12_settles dX12_settles_32
theorem dX12_settles_33 : decode cX12_settles 33 = .ok (.putfield 166, 3) := by decide +kernel
theorem tX12_settles_33 {d : Nat} {l0 l1 l2 : Option Value} {x : Int32} {a : Nat} {m : jmM} {Q : Option Value → jmM → Prop} : AW d 207 33 [l0, l1, l2] [.int x, .ref a] m Q ↔ (mS m a).1 = 12 ∧ AW d 207 36 [l0, l1, l2] [] (cI m a (jup (mI m a) 18 x)) Q := A_putI hB_X12_settles dX12_settles_33 hO_X12_settles fF_12_166 rfl (fun h => Bool.noConfusion h)
theorem dX12_settles_36 : decode cX12_settles 36 = .ok (.aload_n 0, 1) := by decide +kernel
theorem tX12_settles_36 {d : Nat} {l1 l2 : Option Value} {x : Nat} {m : jmM} {Q : Option Value → jmM → Prop} : AW d 207 36 [some (.ref x), l1, l2] [] m Q ↔ AW d 207 37 [some (.ref x), l1, l2] [.ref x] m Q := A_aload_n hB_X12_settles dX12_settles_36 rfl
theorem dX12_settles_37 : decode cX12_settles 37 = .ok (.aload_n 0, 1) := by decide +kernel
theorem tX12_settles_37 {d : Nat} {l1 l2 : Option Value} {v0 : Value} {x : Nat} {m : jmM} {Q : Option Value → jmM → Prop} : AW d 207 37 [some (.ref x), l1, l2] [v0] m Q ↔ AW d 207 38 [some (.ref x), l1, l2] [.ref x, v0] m Q := A_aload_n hB_X12_settles dX12_settles_37 rfl
theorem dX12_settles_38 : decode cX12_settles 38 = .ok (.getfield 35, 3) := by decide +kernel
theorem tX12_settles_38 {d : Nat} {l0 l1 l2 : Option Value} {v1 : Value} {a : Nat} {m : jmM} {Q : Option Value → jmM → Prop} : AW d 207 38 [l0, l1, l2] [.ref a, v1] m Q ↔ (mS m a).1 = 12 ∧ AW d 207 41 [l0, l1, l2] [va_rf (mR m a 17), v1] m Q := A_getfield (f := fun m a => va_rf (mR m a 17)) hB_X12_settles dX12_settles_38 hO_X12_settles fF_12_35 rfl
theorem dX12_settles_41 : decode cX12_settles 41 = .ok (.aload_n 0, 1) := by decide +kernel
theorem tX12_settles_41 {d : Nat} {l1 l2 : Option Value} {v0 v1 : Value} {x : Nat} {m : jmM} {Q : Option Value → jmM → Prop} : AW d 207 41 [some (.ref x), l1, l2] [v0, v1] m Q ↔ AW d 207 42 [some (.ref x), l1, l2] [.ref x, v0, v1] m Q := A_aload_n hB_X12_settles dX12_settles_41 rfl
theorem dX12_settles_42 : decode cX12_settles 42 = .ok (.getfield 166, 3) := by decide +kernel
theorem tX12_settles_42 {d : Nat} {l0 l1 l2 : Option Value} {v1 v2 : Value} {a : Nat} {m : jmM} {Q : Option Value → jmM → Prop} : AW d 207 42 [l0, l1, l2] [.ref a, v1, v2] m Q ↔ (mS m a).1 = 12 ∧ AW d 207 45 [l0, l1, l2] [.int (mI m a 18), v1, v2] m Q := A_getfield (f := fun m a => .int (mI m a 18)) hB_X12_settles dX12_settles_42 hO_X12_settles fF_12_166 rfl
theorem dX12_settles_45 : decode cX12_settles 45 = .ok (.iaload, 1) := by decide +kernel
theorem tX12_settles_45 {d : Nat} {l0 l1 l2 : Option Value} {v2 : Value} {i : Int32} {a : Nat} {m : jmM} {Q : Option Value → jmM → Prop} : AW d 207 45 [l0, l1, l2] [.int i, .ref a, v2] m Q ↔ (((mS m a).1 = 20 ∨ a = jScr) ∧ jIx i (mS m a).2) ∧ AW d 207 46 [l0, l1, l2] [.int (mI m a (jx i)), v2] m Q := A_iaload hB_X12_settles dX12_settles_45
theorem dX12_settles_46 : decode cX12_settles 46 = .ok (.iconst 0, 1) := by decide +kernel
theorem tX12_settles_46 {d : Nat} {l0 l1 l2 : Option Value} {v0 v1 : Value} {m : jmM} {Q : Option Value → jmM → Prop} : AW d 207 46 [l0, l1, l2] [v0, v1] m Q ↔ AW d 207 47 [l0, l1, l2] [.int 0, v0, v1] m Q := A_iconst hB_X12_settles dX12_settles_46 (by decide)
theorem dX12_settles_47 : decode cX12_settles 47 = .ok (.invokevirtual 173, 3) := by decide +kernel
theorem tX12_settles_47 {d : Nat} {l0 l1 l2 : Option Value} {y0 y1 : Value} {a : Nat} {m : jmM} {Q : Option Value → jmM → Prop} : AW d 207 47 [l0, l1, l2] [y0, y1, .ref a] m Q ↔ (mS m a).1 = 12 ∧ CC d 203 [.ref a, y1, y0] m (jK d 207 50 [l0, l1, l2] [] Q) := A_callV hB_X12_settles dX12_settles_47 hO_X12_settles fS_12_173 ⟨Nat.le_of_ble_eq_true rfl, Nat.le_of_ble_eq_true rfl⟩ rfl rfl rfl
theorem dX12_settles_50 : decode cX12_settles 50 = .ok (.aload_n 0, 1) := by decide +kernel
theorem tX12_settles_50 {d : Nat} {l1 l2 : Option Value} {x : Nat} {m : jmM} {Q : Option Value → jmM → Prop} : AW d 207 50 [some (.ref x), l1, l2] [] m Q ↔ AW d 207 51 [some (.ref x), l1, l2] [.ref x] m Q := A_aload_n hB_X12_settles dX12_settles_50 rfl
theorem dX12_settles_51 : decode cX12_settles 51 = .ok (.getfield 35, 3) := by decide +kernel
theorem tX12_settles_51 {d : Nat} {l0 l1 l2 : Option Value} {a : Nat} {m : jmM} {Q : Option Value → jmM → Prop} : AW d 207 51 [l0, l1, l2] [.ref a] m Q ↔ (mS m a).1 = 12 ∧ AW d 207 54 [l0, l1, l2] [va_rf (mR m a 17)] m Q := A_getfield (f := fun m a => va_rf (mR m a 17)) hB_X12_settles dX12_settles_51 hO_X12_settles fF_12_35 rfl
theorem dX12_settles_54 : decode cX12_settles 54 = .ok (.aload_n 0, 1) := by decide +kernel
theorem tX12_settles_54 {d : Nat} {l1 l2 : Option Value} {v0 : Value} {x : Nat} {m : jmM} {Q : Option Value → jmM → Prop} : AW d 207 54 [some (.ref x), l1, l2] [v0] m Q ↔ AW d 207 55 [some (.ref x), l1, l2] [.ref x, v0] m Q := A_aload_n hB_X12_settles dX12_settles_54 rfl
theorem dX12_settles_55 : decode cX12_settles 55 = .ok (.getfield 166, 3) := by decide +kernel
theorem tX12_settles_55 {d : Nat} {l0 l1 l2 : Option Value} {v1 : Value} {a : Nat} {m : jmM} {Q : Option Value → jmM → Prop} : AW d 207 55 [l0, l1, l2] [.ref a, v1] m Q ↔ (mS m a).1 = 12 ∧ AW d 207 58 [l0, l1, l2] [.int (mI m a 18), v1] m Q := A_getfield (f := fun m a => .int (mI m a 18)) hB_X12_settles dX12_settles_55 hO_X12_settles fF_12_166 rfl
theorem dX12_settles_58 : decode cX12_settles 58 = .ok (.iaload, 1) := by decide +kernel
theorem tX12_settles_58 {d : Nat} {l0 l1 l2 : Option Value} {i : Int32} {a : Nat} {m : jmM} {Q : Option Value → jmM → Prop} : AW d 207 58 [l0, l1, l2] [.int i, .ref a] m Q ↔ (((mS m a).1 = 20 ∨ a = jScr) ∧ jIx i (mS m a).2) ∧ AW d 207 59 [l0, l1, l2] [.int (mI m a (jx i))] m Q := A_iaload hB_X12_settles dX12_settles_58
theorem dX12_settles_59 : decode cX12_settles 59 = .ok (.bipush 11, 2) := by decide +kernel
theorem tX12_settles_59 {d : Nat} {l0 l1 l2 : Option Value} {v0 : Value} {m : jmM} {Q : Option Value → jmM → Prop} : AW d 207 59 [l0, l1, l2] [v0] m Q ↔ AW d 207 61 [l0, l1, l2] [.int 11, v0] m Q := A_bipush hB_X12_settles dX12_settles_59 rfl
theorem dX12_settles_61 : decode cX12_settles 61 = .ok (.if_icmp .ne (-61), 3) := by decide +kernel
theorem tX12_settles_61 {d : Nat} {l0 l1 l2 : Option Value} {x y : Int32} {m : jmM} {Q : Option Value → jmM → Prop} : AW d 207 61 [l0, l1, l2] [.int y, .int x] m Q ↔ if x = y then AW d 207 64 [l0, l1, l2] [] m Q else AW d 207 0 [l0, l1, l2] [] m Q := A_icmp_ne hB_X12_settles dX12_settles_61 (by decide)
theorem dX12_settles_64 : decode cX12_settles 64 = .ok (.aload_n 0, 1) := by decide +kernel
theorem tX12_settles_64 {d : Nat} {l1 l2 : Option Value} {x : Nat} {m : jmM} {Q : Option Value → jmM → Prop} : AW d 207 64 [some (.ref x), l1, l2] [] m Q ↔ AW d 207 65 [some (.ref x), l1, l2] [.ref x] m Q := A_aload_n hB_X12_settles dX12_settles_64 rfl
theorem dX12_settles_65 : decode cX12_settles 65 = .ok (.dup, 1) := by decide +kernel
theorem tX12_settles_65 {d : Nat} {l0 l1 l2 : Option Value} {x : Nat} {m : jmM} {Q : Option Value → jmM → Prop} : AW d 207 65 [l0, l1, l2] [.ref x] m Q ↔ AW d 207 66 [l0, l1, l2] [.ref x, .ref x] m Q := A_dup_a hB_X12_settles dX12_settles_65
theorem dX12_settles_66 : decode cX12_settles 66 = .ok (.getfield 163, 3) := by decide +kernel
theorem tX12_settles_66 {d : Nat} {l0 l1 l2 : Option Value} {v1 : Value} {a : Nat} {m : jmM} {Q : Option Value → jmM → Prop} : AW d 207 66 [l0, l1, l2] [.ref a, v1] m Q ↔ (mS m a).1 = 12 ∧ AW d 207 69 [l0, l1, l2] [.int (mI m a 16), v1] m Q := A_getfield (f := fun m a => .int (mI m a 16)) hB_X12_settles dX12_settles_66 hO_X12_settles fF_12_163 rfl
theorem dX12_settles_69 : decode cX12_settles 69 = .ok (.iconst 1, 1) := by decide +kernel
theorem tX12_settles_69 {d : Nat} {l0 l1 l2 : Option Value} {v0 v1 : Value} {m : jmM} {Q : Option Value → jmM → Prop} : AW d 207 69 [l0, l1, l2] [v0, v1] m Q ↔ AW d 207 70 [l0, l1, l2] [.int 1, v0, v1] m Q := A_iconst hB_X12_settles dX12_settles_69 (by decide)
theorem dX12_settles_70 : decode cX12_settles 70 = .ok (.isub, 1) := by decide +kernel
theorem tX12_settles_70 {d : Nat} {l0 l1 l2 : Option Value} {v2 : Value} {x y : Int32} {m : jmM} {Q : Option Value → jmM → Prop} : AW d 207 70 [l0, l1, l2] [.int y, .int x, v2] m Q ↔ AW d 207 71 [l0, l1, l2] [.int (x - y), v2] m Q := A_isub hB_X12_settles dX12_settles_70
theorem dX12_settles_71 : decode cX12_settles 71 = .ok (.putfield 163, 3) := by decide +kernel
theorem tX12_settles_71 {d : Nat} {l0 l1 l2 : Option Value} {x : Int32} {a : Nat} {m : jmM} {Q : Option Value → jmM → Prop} : AW d 207 71 [l0, l1, l2] [.int x, .ref a] m Q ↔ (mS m a).1 = 12 ∧ AW d 207 74 [l0, l1, l2] [] (cI m a (jup (mI m a) 16 x)) Q := A_putI hB_X12_settles dX12_settles_71 hO_X12_settles fF_12_163 rfl (fun h => Bool.noConfusion h)
theorem dX12_settles_74 : decode cX12_settles 74 = .ok (.goto (-74), 3) := by decide +kernel
theorem tX12_settles_74 {d : Nat} {l0 l1 l2 : Option Value} {m : jmM} {Q : Option Value → jmM → Prop} : AW d 207 74 [l0, l1, l2] [] m Q ↔ AW d 207 0 [l0, l1, l2] [] m Q := A_goto hB_X12_settles dX12_settles_74 (by decide)
theorem dX12_settles_77 : decode cX12_settles 77 = .ok (.return_, 1) := by decide +kernel
theorem tX12_settles_77 {d : Nat} {l0 l1 l2 : Option Value} {m : jmM} {Q : Option Value → jmM → Prop} : AW d 207 77 [l0, l1, l2] [] m Q ↔ Q none m := A_return hB_X12_settles dX12_settles_77 hR_X12_settles
theorem hB_X12_value : jB 208 = cX12_value := rfl
theorem hO_X12_value : jO 208 = 12 := rfl
theorem hR_X12_value : jRt 208 = (some .boolean) := rfl
theorem nX12_value (d : Nat) (x0 : Nat) (m : jmM) (Q : Option Value → jmM → Prop) : CC (d + 1) 208 [.ref x0] m Q ↔ AW d 208 0 [some (.ref x0), none, none] [] m Q := CC_body (Nat.le_of_ble_eq_true rfl)
theorem dX12_value_0 : decode cX12_value 0 = .ok (.aload_n 0, 1) := by decide +kernel
theorem tX12_value_0 {d : Nat} {l1 l2 : Option Value} {x : Nat} {m : jmM} {Q : Option Value → jmM → Prop} : AW d 208 0 [some (.ref x), l1, l2] [] m Q ↔ AW d 208 1 [some (.ref x), l1, l2] [.ref x] m Q := A_aload_n hB_X12_value dX12_value_0 rfl
theorem dX12_value_1 : decode cX12_value 1 = .ok (.invokevirtual 114, 3) := by decide +kernel
theorem tX12_value_1 {d : Nat} {l0 l1 l2 : Option Value} {a : Nat} {m : jmM} {Q : Option Value → jmM → Prop} : AW d 208 1 [l0, l1, l2] [.ref a] m Q ↔ (mS m a).1 = 12 ∧ CC d 195 [.ref a] m (jK d 208 4 [l0, l1, l2] [] Q) := A_callV hB_X12_value dX12_value_1 hO_X12_value fS_12_114 ⟨Nat.le_of_ble_eq_true rfl, Nat.le_of_ble_eq_true rfl⟩ rfl rfl rfl
theorem dX12_value_4 : decode cX12_value 4 = .ok (.bipush 40, 2) := by decide +kernel
theorem tX12_value_4 {d : Nat} {l0 l1 l2 : Option Value} {v0 : Value} {m : jmM} {Q : Option Value → jmM → Prop} : AW d 208 4 [l0, l1, l2] [v0] m Q ↔ AW d 208 6 [l0, l1, l2] [.int 40, v0] m Q := A_bipush hB_X12_value dX12_value_4 rfl
theorem dX12_value_6 : decode cX12_value 6 = .ok (.if_icmp .ne 27, 3) := by decide +kernel
theorem tX12_value_6 {d : Nat} {l0 l1 l2 : Option Value} {x y : Int32} {m : jmM} {Q : Option Value → jmM → Prop} : AW d 208 6 [l0, l1, l2] [.int y, .int x] m Q ↔ if x = y then AW d 208 9 [l0, l1, l2] [] m Q else AW d 208 33 [l0, l1, l2] [] m Q := A_icmp_ne hB_X12_value dX12_value_6 (by decide)
theorem dX12_value_9 : decode cX12_value 9 = .ok (.aload_n 0, 1) := by decide +kernel
theorem tX12_value_9 {d : Nat} {l1 l2 : Option Value} {x : Nat} {m : jmM} {Q : Option Value → jmM → Prop} : AW d 208 9 [some (.ref x), l1, l2] [] m Q ↔ AW d 208 10 [some (.ref x), l1, l2] [.ref x] m Q := A_aload_n hB_X12_value dX12_value_9 rfl
theorem dX12_value_10 : decode cX12_value 10 = .ok (.bipush 40, 2) := by decide +kernel
theorem tX12_value_10 {d : Nat} {l0 l1 l2 : Option Value} {v0 : Value} {m : jmM} {Q : Option Value → jmM → Prop} : AW d 208 10 [l0, l1, l2] [v0] m Q ↔ AW d 208 12 [l0, l1, l2] [.int 40, v0] m Q := A_bipush hB_X12_value dX12_value_10 rfl
theorem dX12_value_12 : decode cX12_value 12 = .ok (.invokevirtual 177, 3) := by decide +kernel
theorem tX12_value_12 {d : Nat} {l0 l1 l2 : Option Value} {y0 : Value} {a : Nat} {m : jmM} {Q : Option Value → jmM → Prop} : AW d 208 12 [l0, l1, l2] [y0, .ref a] m Q ↔ (mS m a).1 = 12 ∧ CC d 205 [.ref a, y0] m (jK d 208 15 [l0, l1, l2] [] Q) := A_callV hB_X12_value dX12_value_12 hO_X12_value fS_12_177 ⟨Nat.le_of_ble_eq_true rfl, Nat.le_of_ble_eq_true rfl⟩ rfl rfl rfl
theorem dX12_value_15 : decode cX12_value 15 = .ok (.ifCond .ne 5, 3) := by decide +kernel
theorem tX12_value_15 {d : Nat} {l0 l1 l2 : Option Value} {x : Int32} {m : jmM} {Q : Option Value → jmM → Prop} : AW d 208 15 [l0, l1, l2] [.int x] m Q ↔ if x = 0 then AW d 208 18 [l0, l1, l2] [] m Q else AW d 208 20 [l0, l1, l2] [] m Q := A_if_ne hB_X12_value dX12_value_15 (by decide)
theorem dX12_value_18 : decode cX12_value 18 = .ok (.iconst 0, 1) := by decide +kernel
theorem tX12_value_18 {d : Nat} {l0 l1 l2 : Option Value} {m : jmM} {Q : Option Value → jmM → Prop} : AW d 208 18 [l0, l1, l2] [] m Q ↔ AW d 208 19 [l0, l1, l2] [.int 0] m Q := A_iconst hB_X12_value dX12_value_18 (by decide)
theorem dX12_value_19 : decode cX12_value 19 = .ok (.ireturn, 1) := by decide +kernel
theorem tX12_value_19 {d : Nat} {l0 l1 l2 : Option Value} {x : Int32} {m : jmM} {Q : Option Value → jmM → Prop} : AW d 208 19 [l0, l1, l2] [.int x] m Q ↔ jBool x ∧ Q (some (.int x)) m := A_zreturn hB_X12_value dX12_value_19 hR_X12_value
theorem dX12_value_20 : decode cX12_value 20 = .ok (.aload_n 0, 1) := by decide +kernel
theorem tX12_value_20 {d : Nat} {l1 l2 : Option Value} {x : Nat} {m : jmM} {Q : Option Value → jmM → Prop} : AW d 208 20 [some (.ref x), l1, l2] [] m Q ↔ AW d 208 21 [some (.ref x), l1, l2] [.ref x] m Q := A_aload_n hB_X12_value dX12_value_20 rfl
theorem dX12_value_21 : decode cX12_value 21 = .ok (.dup, 1) := by decide +kernel
theorem tX12_value_21 {d : Nat} {l0 l1 l2 : Option Value} {x : Nat} {m : jmM} {Q : Option Value → jmM → Prop} : AW d 208 21 [l0, l1, l2] [.ref x] m Q ↔ AW d 208 22 [l0, l1, l2] [.ref x, .ref x] m Q := A_dup_a hB_X12_value dX12_value_21
theorem dX12_value_22 : decode cX12_value 22 = .ok (.getfield 111, 3) := by decide +kernel
theorem tX12_value_22 {d : Nat} {l0 l1 l2 : Option Value} {v1 : Value} {a : Nat} {m : jmM} {Q : Option Value → jmM → Prop} : AW d 208 22 [l0, l1, l2] [.ref a, v1] m Q ↔ (mS m a).1 = 12 ∧ AW d 208 25 [l0, l1, l2] [.int (mI m a 11), v1] m Q := A_getfield (f := fun m a => .int (mI m a 11)) hB_X12_value dX12_value_22 hO_X12_value fF_12_111 rfl
theorem dX12_value_25 : decode cX12_value 25 = .ok (.iconst 1, 1) := by decide +kernel
theorem tX12_value_25 {d : Nat} {l0 l1 l2 : Option Value} {v0 v1 : Value} {m : jmM} {Q : Option Value → jmM → Prop} : AW d 208 25 [l0, l1, l2] [v0, v1] m Q ↔ AW d 208 26 [l0, l1, l2] [.int 1, v0, v1] m Q := A_iconst hB_X12_value dX12_value_25 (by decide)
theorem dX12_value_26 : decode cX12_value 26 = .ok (.iadd, 1) := by decide +kernel
theorem tX12_value_26 {d : Nat} {l0 l1 l2 : Option Value} {v2 : Value} {x y : Int32} {m : jmM} {Q : Option Value → jmM → Prop} : AW d 208 26 [l0, l1, l2] [.int y, .int x, v2] m Q ↔ AW d 208 27 [l0, l1, l2] [.int (x + y), v2] m Q := A_iadd hB_X12_value dX12_value_26
theorem dX12_value_27 : decode cX12_value 27 = .ok (.putfield 111, 3) := by decide +kernel
theorem tX12_value_27 {d : Nat} {l0 l1 l2 : Option Value} {x : Int32} {a : Nat} {m : jmM} {Q : Option Value → jmM → Prop} : AW d 208 27 [l0, l1, l2] [.int x, .ref a] m Q ↔ (mS m a).1 = 12 ∧ AW d 208 30 [l0, l1, l2] [] (cI m a (jup (mI m a) 11 x)) Q := A_putI hB_X12_value dX12_value_27 hO_X12_value fF_12_111 rfl (fun h => Bool.noConfusion h)
theorem dX12_value_30 : decode cX12_value 30 = .ok (.goto (-30), 3) := by decide +kernel
theorem tX12_value_30 {d : Nat} {l0 l1 l2 : Option Value} {m : jmM} {Q : Option Value → jmM → Prop} : AW d 208 30 [l0, l1, l2] [] m Q ↔ AW d 208 0 [l0, l1, l2] [] m Q := A_goto hB_X12_value dX12_value_30 (by decide)
theorem dX12_value_33 : decode cX12_value 33 = .ok (.aload_n 0, 1) := by decide +kernel
theorem tX12_value_33 {d : Nat} {l1 l2 : Option Value} {x : Nat} {m : jmM} {Q : Option Value → jmM → Prop} : AW d 208 33 [some (.ref x), l1, l2] [] m Q ↔ AW d 208 34 [some (.ref x), l1, l2] [.ref x] m Q := A_aload_n hB_X12_value dX12_value_33 rfl
theorem dX12_value_34 : decode cX12_value 34 = .ok (.getfield 111, 3) := by decide +kernel
theorem tX12_value_34 {d : Nat} {l0 l1 l2 : Option Value} {a : Nat} {m : jmM} {Q : Option Value → jmM → Prop} : AW d 208 34 [l0, l1, l2] [.ref a] m Q ↔ (mS m a).1 = 12 ∧ AW d 208 37 [l0, l1, l2] [.int (mI m a 11)] m Q := A_getfield (f := fun m a => .int (mI m a 11)) hB_X12_value dX12_value_34 hO_X12_value fF_12_111 rfl
theorem dX12_value_37 : decode cX12_value 37 = .ok (.istore_n 1, 1) := by decide +kernel
theorem tX12_value_37 {d : Nat} {l0 l1 l2 : Option Value} {x : Int32} {m : jmM} {Q : Option Value → jmM → Prop} : AW d 208 37 [l0, l1, l2] [.int x] m Q ↔ AW d 208 38 [jc1 l0, some (.int x), l2] [] m Q := A_istore_n hB_X12_value dX12_value_37 (Nat.le_of_ble_eq_true rfl) rfl
theorem dX12_value_38 : decode cX12_value 38 = .ok (.aload_n 0, 1) := by decide +kernel
theorem tX12_value_38 {d : Nat} {l1 l2 : Option Value} {x : Nat} {m : jmM} {Q : Option Value → jmM → Prop} : AW d 208 38 [some (.ref x), l1, l2] [] m Q ↔ AW d 208 39 [some (.ref x), l1, l2] [.ref x] m Q := A_aload_n hB_X12_value dX12_value_38 rfl
theorem dX12_value_39 : decode cX12_value 39 = .ok (.aload_n 0, 1) := by decide +kernel
theorem tX12_value_39 {d : Nat} {l1 l2 : Option Value} {v0 : Value} {x : Nat} {m : jmM} {Q : Option Value → jmM → Prop} : AW d 208 39 [some (.ref x), l1, l2] [v0] m Q ↔ AW d 208 40 [some (.ref x), l1, l2] [.ref x, v0] m Q := A_aload_n hB_X12_value dX12_value_39 rfl
theorem dX12_value_40 : decode cX12_value 40 = .ok (.getfield 111, 3) := by decide +kernel
theorem tX12_value_40 {d : Nat} {l0 l1 l2 : Option Value} {v1 : Value} {a : Nat} {m : jmM} {Q : Option Value → jmM → Prop} : AW d 208 40 [l0, l1, l2] [.ref a, v1] m Q ↔ (mS m a).1 = 12 ∧ AW d 208 43 [l0, l1, l2] [.int (mI m a 11), v1] m Q := A_getfield (f := fun m a => .int (mI m a 11)) hB_X12_value dX12_value_40 hO_X12_value fF_12_111 rfl
theorem dX12_value_43 : decode cX12_value 43 = .ok (.invokevirtual 129, 3) := by decide +kernel
theorem tX12_value_43 {d : Nat} {l0 l1 l2 : Option Value} {y0 : Value} {a : Nat} {m : jmM} {Q : Option Value → jmM → Prop} : AW d 208 43 [l0, l1, l2] [y0, .ref a] m Q ↔ (mS m a).1 = 12 ∧ CC d 196 [.ref a, y0] m (jK d 208 46 [l0, l1, l2] [] Q) := A_callV hB_X12_value dX12_value_43 hO_X12_value fS_12_129 ⟨Nat.le_of_ble_eq_true rfl, Nat.le_of_ble_eq_true rfl⟩ rfl rfl rfl
theorem dX12_value_46 : decode cX12_value 46 = .ok (.ifCond .eq 33, 3) := by decide +kernel
theorem tX12_value_46 {d : Nat} {l0 l1 l2 : Option Value} {x : Int32} {m : jmM} {Q : Option Value → jmM → Prop} : AW d 208 46 [l0, l1, l2] [.int x] m Q ↔ if x = 0 then AW d 208 79 [l0, l1, l2] [] m Q else AW d 208 49 [l0, l1, l2] [] m Q := A_if_eq hB_X12_value dX12_value_46 (by decide)
theorem dX12_value_49 : decode cX12_value 49 = .ok (.aload_n 0, 1) := by decide +kernel
theorem tX12_value_49 {d : Nat} {l1 l2 : Option Value} {x : Nat} {m : jmM} {Q : Option Value → jmM → Prop} : AW d 208 49 [some (.ref x), l1, l2] [] m Q ↔ AW d 208 50 [some (.ref x), l1, l2] [.ref x] m Q := A_aload_n hB_X12_value dX12_value_49 rfl
theorem dX12_value_50 : decode cX12_value 50 = .ok (.ldc 180, 2) := by decide +kernel
theorem tX12_value_50 {d : Nat} {l0 l1 l2 : Option Value} {v0 : Value} {m : jmM} {Q : Option Value → jmM → Prop} : AW d 208 50 [l0, l1, l2] [v0] m Q ↔ AW d 208 52 [l0, l1, l2] [.int 99999, v0] m Q := A_ldc hB_X12_value dX12_value_50 hO_X12_value fL_12_180
theorem dX12_value_52 : decode cX12_value 52 = .ok (.invokevirtual 181, 3) := by decide +kernel
theorem tX12_value_52 {d : Nat} {l0 l1 l2 : Option Value} {y0 : Value} {a : Nat} {m : jmM} {Q : Option Value → jmM → Prop} : AW d 208 52 [l0, l1, l2] [y0, .ref a] m Q ↔ (mS m a).1 = 12 ∧ CC d 201 [.ref a, y0] m (jK d 208 55 [l0, l1, l2] [] Q) := A_callV hB_X12_value dX12_value_52 hO_X12_value fS_12_181 ⟨Nat.le_of_ble_eq_true rfl, Nat.le_of_ble_eq_true rfl⟩ rfl rfl rfl
theorem dX12_value_55 : decode cX12_value 55 = .ok (.ifCond .eq 11, 3) := by decide +kernel
theorem tX12_value_55 {d : Nat} {l0 l1 l2 : Option Value} {x : Int32} {m : jmM} {Q : Option Value → jmM → Prop} : AW d 208 55 [l0, l1, l2] [.int x] m Q ↔ if x = 0 then AW d 208 66 [l0, l1, l2] [] m Q else AW d 208 58 [l0, l1, l2] [] m Q := A_if_eq hB_X12_value dX12_value_55 (by decide)
theorem dX12_value_58 : decode cX12_value 58 = .ok (.aload_n 0, 1) := by decide +kernel
theorem tX12_value_58 {d : Nat} {l1 l2 : Option Value} {x : Nat} {m : jmM} {Q : Option Value → jmM → Prop} : AW d 208 58 [some (.ref x), l1, l2] [] m Q ↔ AW d 208 59 [some (.ref x), l1, l2] [.ref x] m Q := A_aload_n hB_X12_value dX12_value_58 rfl
theorem dX12_value_59 : decode cX12_value 59 = .ok (.iload_n 1, 1) := by decide +kernel
theorem tX12_value_59 {d : Nat} {l0 l2 : Option Value} {v0 : Value} {x : Int32} {m : jmM} {Q : Option Value → jmM → Prop} : AW d 208 59 [l0, some (.int x), l2] [v0] m Q ↔ AW d 208 60 [l0, some (.int x), l2] [.int x, v0] m Q := A_iload_n hB_X12_value dX12_value_59 rfl
theorem dX12_value_60 : decode cX12_value 60 = .ok (.invokevirtual 184, 3) := by decide +kernel
theorem tX12_value_60 {d : Nat} {l0 l1 l2 : Option Value} {y0 : Value} {a : Nat} {m : jmM} {Q : Option Value → jmM → Prop} : AW d 208 60 [l0, l1, l2] [y0, .ref a] m Q ↔ (mS m a).1 = 12 ∧ CC d 204 [.ref a, y0] m (jK d 208 63 [l0, l1, l2] [] Q) := A_callV hB_X12_value dX12_value_60 hO_X12_value fS_12_184 ⟨Nat.le_of_ble_eq_true rfl, Nat.le_of_ble_eq_true rfl⟩ rfl rfl rfl
theorem dX12_value_63 : decode cX12_value 63 = .ok (.ifCond .ne 5, 3) := by decide +kernel
theorem tX12_value_63 {d : Nat} {l0 l1 l2 : Option Value} {x : Int32} {m : jmM} {Q : Option Value → jmM → Prop} : AW d 208 63 [l0, l1, l2] [.int x] m Q ↔ if x = 0 then AW d 208 66 [l0, l1, l2] [] m Q else AW d 208 68 [l0, l1, l2] [] m Q := A_if_ne hB_X12_value dX12_value_63 (by decide)
theorem dX12_value_66 : decode cX12_value 66 = .ok (.iconst 0, 1) := by decide +kernel
theorem tX12_value_66 {d : Nat} {l0 l1 l2 : Option Value} {m : jmM} {Q : Option Value → jmM → Prop} : AW d 208 66 [l0, l1, l2] [] m Q ↔ AW d 208 67 [l0, l1, l2] [.int 0] m Q := A_iconst hB_X12_value dX12_value_66 (by decide)
theorem dX12_value_67 : decode cX12_value 67 = .ok (.ireturn, 1) := by decide +kernel
theorem tX12_value_67 {d : Nat} {l0 l1 l2 : Option Value} {x : Int32} {m : jmM} {Q : Option Value → jmM → Prop} : AW d 208 67 [l0, l1, l2] [.int x] m Q ↔ jBool x ∧ Q (some (.int x)) m := A_zreturn hB_X12_value dX12_value_67 hR_X12_value
theorem dX12_value_68 : decode cX12_value 68 = .ok (.aload_n 0, 1) := by decide +kernel
theorem tX12_value_68 {d : Nat} {l1 l2 : Option Value} {x : Nat} {m : jmM} {Q : Option Value → jmM → Prop} : AW d 208 68 [some (.ref x), l1, l2] [] m Q ↔ AW d 208 69 [some (.ref x), l1, l2] [.ref x] m Q := A_aload_n hB_X12_value dX12_value_68 rfl
theorem dX12_value_69 : decode cX12_value 69 = .ok (.iconst 0, 1) := by decide +kernel
theorem tX12_value_69 {d : Nat} {l0 l1 l2 : Option Value} {v0 : Value} {m : jmM} {Q : Option Value → jmM → Prop} : AW d 208 69 [l0, l1, l2] [v0] m Q ↔ AW d 208 70 [l0, l1, l2] [.int 0, v0] m Q := A_iconst hB_X12_value dX12_value_69 (by decide)
theorem dX12_value_70 : decode cX12_value 70 = .ok (.aload_n 0, 1) := by decide +kernel
theorem tX12_value_70 {d : Nat} {l1 l2 : Option Value} {v0 v1 : Value} {x : Nat} {m : jmM} {Q : Option Value → jmM → Prop} : AW d 208 70 [some (.ref x), l1, l2] [v0, v1] m Q ↔ AW d 208 71 [some (.ref x), l1, l2] [.ref x, v0, v1] m Q := A_aload_n hB_X12_value dX12_value_70 rfl
theorem dX12_value_71 : decode cX12_value 71 = .ok (.getfield 136, 3) := by decide +kernel
theorem tX12_value_71 {d : Nat} {l0 l1 l2 : Option Value} {v1 v2 : Value} {a : Nat} {m : jmM} {Q : Option Value → jmM → Prop} : AW d 208 71 [l0, l1, l2] [.ref a, v1, v2] m Q ↔ (mS m a).1 = 12 ∧ AW d 208 74 [l0, l1, l2] [.int (mI m a 13), v1, v2] m Q := A_getfield (f := fun m a => .int (mI m a 13)) hB_X12_value dX12_value_71 hO_X12_value fF_12_136 rfl
theorem dX12_value_74 : decode cX12_value 74 = .ok (.invokevirtual 173, 3) := by decide +kernel
theorem tX12_value_74 {d : Nat} {l0 l1 l2 : Option Value} {y0 y1 : Value} {a : Nat} {m : jmM} {Q : Option Value → jmM → Prop} : AW d 208 74 [l0, l1, l2] [y0, y1, .ref a] m Q ↔ (mS m a).1 = 12 ∧ CC d 203 [.ref a, y1, y0] m (jK d 208 77 [l0, l1, l2] [] Q) := A_callV hB_X12_value dX12_value_74 hO_X12_value fS_12_173 ⟨Nat.le_of_ble_eq_true rfl, Nat.le_of_ble_eq_true rfl⟩ rfl rfl rfl
theorem dX12_value_77 : decode cX12_value 77 = .ok (.iconst 1, 1) := by decide +kernel
theorem tX12_value_77 {d : Nat} {l0 l1 l2 : Option Value} {m : jmM} {Q : Option Value → jmM → Prop} : AW d 208 77 [l0, l1, l2] [] m Q ↔ AW d 208 78 [l0, l1, l2] [.int 1] m Q := A_iconst hB_X12_value dX12_value_77 (by decide)
theorem dX12_value_78 : decode cX12_value 78 = .ok (.ireturn, 1) := by decide +kernel
theorem tX12_value_78 {d : Nat} {l0 l1 l2 : Option Value} {x : Int32} {m : jmM} {Q : Option Value → jmM → Prop} : AW d 208 78 [l0, l1, l2] [.int x] m Q ↔ jBool x ∧ Q (some (.int x)) m := A_zreturn hB_X12_value dX12_value_78 hR_X12_value
theorem dX12_value_79 : decode cX12_value 79 = .ok (.aload_n 0, 1) := by decide +kernel
theorem tX12_value_79 {d : Nat} {l1 l2 : Option Value} {x : Nat} {m : jmM} {Q : Option Value → jmM → Prop} : AW d 208 79 [some (.ref x), l1, l2] [] m Q ↔ AW d 208 80 [some (.ref x), l1, l2] [.ref x] m Q := A_aload_n hB_X12_value dX12_value_79 rfl
theorem dX12_value_80 : decode cX12_value 80 = .ok (.invokevirtual 187, 3) := by decide +kernel
theorem tX12_value_80 {d : Nat} {l0 l1 l2 : Option Value} {a : Nat} {m : jmM} {Q : Option Value → jmM → Prop} : AW d 208 80 [l0, l1, l2] [.ref a] m Q ↔ (mS m a).1 = 12 ∧ CC d 202 [.ref a] m (jK d 208 83 [l0, l1, l2] [] Q) := A_callV hB_X12_value dX12_value_80 hO_X12_value fS_12_187 ⟨Nat.le_of_ble_eq_true rfl, Nat.le_of_ble_eq_true rfl⟩ rfl rfl rfl
theorem dX12_value_83 : decode cX12_value 83 = .ok (.istore_n 2, 1) := by decide +kernel
theorem tX12_value_83 {d : Nat} {l0 l1 l2 : Option Value} {x : Int32} {m : jmM} {Q : Option Value → jmM → Prop} : AW d 208 83 [l0, l1, l2] [.int x] m Q ↔ AW d 208 84 [l0, jc1 l1, some (.int x)] [] m Q := A_istore_n hB_X12_value dX12_value_83 (Nat.le_of_ble_eq_true rfl) rfl
theorem dX12_value_84 : decode cX12_value 84 = .ok (.iload_n 2, 1) := by decide +kernel
theorem tX12_value_84 {d : Nat} {l0 l1 : Option Value} {x : Int32} {m : jmM} {Q : Option Value → jmM → Prop} : AW d 208 84 [l0, l1, some (.int x)] [] m Q ↔ AW d 208 85 [l0, l1, some (.int x)] [.int x] m Q := A_iload_n hB_X12_value dX12_value_84 rfl
theorem dX12_value_85 : decode cX12_value 85 = .ok (.ifCond .ge 10, 3) := by decide +kernel
theorem tX12_value_85 {d : Nat} {l0 l1 l2 : Option Value} {x : Int32} {m : jmM} {Q : Option Value → jmM → Prop} : AW d 208 85 [l0, l1, l2] [.int x] m Q ↔ if 0 ≤ x then AW d 208 95 [l0, l1, l2] [] m Q else AW d 208 88 [l0, l1, l2] [] m Q := A_if_ge hB_X12_value dX12_value_85 (by decide)
theorem dX12_value_88 : decode cX12_value 88 = .ok (.aload_n 0, 1) := by decide +kernel
theorem tX12_value_88 {d : Nat} {l1 l2 : Option Value} {x : Nat} {m : jmM} {Q : Option Value → jmM → Prop} : AW d 208 88 [some (.ref x), l1, l2] [] m Q ↔ AW d 208 89 [some (.ref x), l1, l2] [.ref x] m Q := A_aload_n hB_X12_value dX12_value_88 rfl
theorem dX12_value_89 : decode cX12_value 89 = .ok (.iconst 0, 1) := by decide +kernel
theorem tX12_value_89 {d : Nat} {l0 l1 l2 : Option Value} {v0 : Value} {m : jmM} {Q : Option Value → jmM → Prop} : AW d 208 89 [l0, l1, l2] [v0] m Q ↔ AW d 208 90 [l0, l1, l2] [.int 0, v0] m Q := A_iconst hB_X12_value dX12_value_89 (by decide)
theorem dX12_value_90 : decode cX12_value 90 = .ok (.iload_n 1, 1) := by decide +kernel
theorem tX12_value_90 {d : Nat} {l0 l2 : Option Value} {v0 v1 : Value} {x : Int32} {m : jmM} {Q : Option Value → jmM → Prop} : AW d 208 90 [l0, some (.int x), l2] [v0, v1] m Q ↔ AW d 208 91 [l0, some (.int x), l2] [.int x, v0, v1] m Q := A_iload_n hB_X12_value dX12_value_90 rfl
theorem dX12_value_91 : decode cX12_value 91 = .ok (.invokevirtual 132, 3) := by decide +kernel
theorem tX12_value_91 {d : Nat} {l0 l1 l2 : Option Value} {y0 y1 : Value} {a : Nat} {m : jmM} {Q : Option Value → jmM → Prop} : AW d 208 91 [l0, l1, l2] [y0, y1, .ref a] m Q ↔ (mS m a).1 = 12 ∧ CC d 194 [.ref a, y1, y0] m (jK d 208 94 [l0, l1, l2] [] Q) := A_callV hB_X12_value dX12_value_91 hO_X12_value fS_12_132 ⟨Nat.le_of_ble_eq_true rfl, Nat.le_of_ble_eq_true rfl⟩ rfl rfl rfl
theorem dX12_value_94 : decode cX12_value 94 = .ok (.ireturn, 1) := by decide +kernel
theorem tX12_value_94 {d : Nat} {l0 l1 l2 : Option Value} {x : Int32} {m : jmM} {Q : Option Value → jmM → Prop} : AW d 208 94 [l0, l1, l2] [.int x] m Q ↔ jBool x ∧ Q (some (.int x)) m := A_zreturn hB_X12_value dX12_value_94 hR_X12_value
theorem dX12_value_95 : decode cX12_value 95 = .ok (.aload_n 0, 1) := by decide +kernel
theorem tX12_value_95 {d : Nat} {l1 l2 : Option Value} {x : Nat} {m : jmM} {Q : Option Value → jmM → Prop} : AW d 208 95 [some (.ref x), l1, l2] [] m Q ↔ AW d 208 96 [some (.ref x), l1, l2] [.ref x] m Q := A_aload_n hB_X12_value dX12_value_95 rfl
theorem dX12_value_96 : decode cX12_value 96 = .ok (.iload_n 1, 1) := by decide +kernel
theorem tX12_value_96 {d : Nat} {l0 l2 : Option Value} {v0 : Value} {x : Int32} {m : jmM} {Q : Option Value → jmM → Prop} : AW d 208 96 [l0, some (.int x), l2] [v0] m Q ↔ AW d 208 97 [l0, some (.int x), l2] [.int x, v0] m Q := A_iload_n hB_X12_value dX12_value_96 rfl
theorem dX12_value_97 : decode cX12_value 97 = .ok (.invokevirtual 184, 3) := by decide +kernel
theorem tX12_value_97 {d : Nat} {l0 l1 l2 : Option Value} {y0 : Value} {a : Nat} {m : jmM} {Q : Option Value → jmM → Prop} : AW d 208 97 [l0, l1, l2] [y0, .ref a] m Q ↔ (mS m a).1 = 12 ∧ CC d 204 [.ref a, y0] m (jK d 208 100 [l0, l1, l2] [] Q) := A_callV hB_X12_value dX12_value_97 hO_X12_value fS_12_184 ⟨Nat.le_of_ble_eq_true rfl, Nat.le_of_ble_eq_true rfl⟩ rfl rfl rfl
theorem dX12_value_100 : decode cX12_value 100 = .ok (.ifCond .ne 5, 3) := by decide +kernel
theorem tX12_value_100 {d : Nat} {l0 l1 l2 : Option Value} {x : Int32} {m : jmM} {Q : Option Value → jmM → Prop} : AW d 208 100 [l0, l1, l2] [.int x] m Q ↔ if x = 0 then AW d 208 103 [l0, l1, l2] [] m Q else AW d 208 105 [l0, l1, l2] [] m Q := A_if_ne hB_X12_value dX12_value_100 (by decide)
theorem dX12_value_103 : decode cX12_value 103 = .ok (.iconst 0, 1) := by decide +kernel
theorem tX12_value_103 {d : Nat} {l0 l1 l2 : Option Value} {m : jmM} {Q : Option Value → jmM → Prop} : AW d 208 103 [l0, l1, l2] [] m Q ↔ AW d 208 104 [l0, l1, l2] [.int 0] m Q := A_iconst hB_X12_value dX12_value_103 (by decide)
theorem dX12_value_104 : decode cX12_value 104 = .ok (.ireturn, 1) := by decide +kernel
theorem tX12_value_104 {d : Nat} {l0 l1 l2 : Option Value} {x : Int32} {m : jmM} {Q : Option Value → jmM → Prop} : AW d 208 104 [l0, l1, l2] [.int x] m Q ↔ jBool x ∧ Q (some (.int x)) m := A_zreturn hB_X12_value dX12_value_104 hR_X12_value
theorem dX12_value_105 : decode cX12_value 105 = .ok (.aload_n 0, 1) := by decide +kernel
theorem tX12_value_105 {d : Nat} {l1 l2 : Option Value} {x : Nat} {m : jmM} {Q : Option Value → jmM → Prop} : AW d 208 105 [some (.ref x), l1, l2] [] m Q ↔ AW d 208 106 [some (.ref x), l1, l2] [.ref x] m Q := A_aload_n hB_X12_value dX12_value_105 rfl
theorem dX12_value_106 : decode cX12_value 106 = .ok (.invokevirtual 126, 3) := by decide +kernel
theorem tX12_value_106 {d : Nat} {l0 l1 l2 : Option Value} {a : Nat} {m : jmM} {Q : Option Value → jmM → Prop} : AW d 208 106 [l0, l1, l2] [.ref a] m Q ↔ (mS m a).1 = 12 ∧ CC d 199 [.ref a] m (jK d 208 109 [l0, l1, l2] [] Q) := A_callV hB_X12_value dX12_value_106 hO_X12_value fS_12_126 ⟨Nat.le_of_ble_eq_true rfl, Nat.le_of_ble_eq_true rfl⟩ rfl rfl rfl
theorem dX12_value_109 : decode cX12_value 109 = .ok (.aload_n 0, 1) := by decide +kernel
theorem tX12_value_109 {d : Nat} {l1 l2 : Option Value} {x : Nat} {m : jmM} {Q : Option Value → jmM → Prop} : AW d 208 109 [some (.ref x), l1, l2] [] m Q ↔ AW d 208 110 [some (.ref x), l1, l2] [.ref x] m Q := A_aload_n hB_X12_value dX12_value_109 rfl
theorem dX12_value_110 : decode cX12_value 110 = .ok (.iconst 1, 1) := by decide +kernel
theorem tX12_value_110 {d : Nat} {l0 l1 l2 : Option Value} {v0 : Value} {m : jmM} {Q : Option Value → jmM → Prop} : AW d 208 110 [l0, l1, l2] [v0] m Q ↔ AW d 208 111 [l0, l1, l2] [.int 1, v0] m Q := A_iconst hB_X12_value dX12_value_110 (by decide)
theorem dX12_value_111 : decode cX12_value 111 = .ok (.iload_n 2, 1) := by decide +kernel
theorem tX12_value_111 {d : Nat} {l0 l1 : Option Value} {v0 v1 : Value} {x : Int32} {m : jmM} {Q : Option Value → jmM → Prop} : AW d 208 111 [l0, l1, some (.int x)] [v0, v1] m Q ↔ AW d 208 112 [l0, l1, some (.int x)] [.int x, v0, v1] m Q := A_iload_n hB_X12_value dX12_value_111 rfl
theorem dX12_value_112 : decode cX12_value 112 = .ok (.invokevirtual 173, 3) := by decide +kernel
theorem tX12_value_112 {d : Nat} {l0 l1 l2 : Option Value} {y0 y1 : Value} {a : Nat} {m : jmM} {Q : Option Value → jmM → Prop} : AW d 208 112 [l0, l1, l2] [y0, y1, .ref a] m Q ↔ (mS m a).1 = 12 ∧ CC d 203 [.ref a, y1, y0] m (jK d 208 115 [l0, l1, l2] [] Q) := A_callV hB_X12_value dX12_value_112 hO_X12_value fS_12_173 ⟨Nat.le_of_ble_eq_true rfl, Nat.le_of_ble_eq_true rfl⟩ rfl rfl rfl
theorem dX12_value_115 : decode cX12_value 115 = .ok (.iconst 1, 1) := by decide +kernel
theorem tX12_value_115 {d : Nat} {l0 l1 l2 : Option Value} {m : jmM} {Q : Option Value → jmM → Prop} : AW d 208 115 [l0, l1, l2] [] m Q ↔ AW d 208 116 [l0, l1, l2] [.int 1] m Q := A_iconst hB_X12_value dX12_value_115 (by decide)
theorem dX12_value_116 : decode cX12_value 116 = .ok (.ireturn, 1) := by decide +kernel
theorem tX12_value_116 {d : Nat} {l0 l1 l2 : Option Value} {x : Int32} {m : jmM} {Q : Option Value → jmM → Prop} : AW d 208 116 [l0, l1, l2] [.int x] m Q ↔ jBool x ∧ Q (some (.int x)) m := A_zreturn hB_X12_value dX12_value_116 hR_X12_value
theorem hB_X12_hasRound : jB 209 = cX12_hasRound := rfl
theorem hO_X12_hasRound : jO 209 = 12 := rfl
theorem hR_X12_hasRound : jRt 209 = (some .boolean) := rfl
theorem nX12_hasRound (d : Nat) (x0 : Nat) (x1 : Int32) (m : jmM) (Q : Option Value → jmM → Prop) : CC (d + 1) 209 [.ref x0, .int x1] m Q ↔ AW d 209 0 [some (.ref x0), some (.int x1), none] [] m Q := CC_body (Nat.le_of_ble_eq_true rfl)
theorem dX12_hasRound_0 : decode cX12_hasRound 0 = .ok (.iload_n 1, 1) := by decide +kernel
theorem tX12_hasRound_0 {d : Nat} {l0 l2 : Option Value} {x : Int32} {m : jmM} {Q : Option Value → jmM → Prop} : AW d 209 0 [l0, some (.int x), l2] [] m Q ↔ AW d 209 1 [l0, some (.int x), l2] [.int x] m Q := A_iload_n hB_X12_hasRound dX12_hasRound_0 rfl
theorem dX12_hasRound_1 : decode cX12_hasRound 1 = .ok (.istore_n 2, 1) := by decide +kernel
theorem tX12_hasRound_1 {d : Nat} {l0 l1 l2 : Option Value} {x : Int32} {m : jmM} {Q : Option Value → jmM → Prop} : AW d 209 1 [l0, l1, l2] [.int x] m Q ↔ AW d 209 2 [l0, jc1 l1, some (.int x)] [] m Q := A_istore_n hB_X12_hasRound dX12_hasRound_1 (Nat.le_of_ble_eq_true rfl) rfl
theorem dX12_hasRound_2 : decode cX12_hasRound 2 = .ok (.iload_n 2, 1) := by decide +kernel
theorem tX12_hasRound_2 {d : Nat} {l0 l1 : Option Value} {x : Int32} {m : jmM} {Q : Option Value → jmM → Prop} : AW d 209 2 [l0, l1, some (.int x)] [] m Q ↔ AW d 209 3 [l0, l1, some (.int x)] [.int x] m Q := A_iload_n hB_X12_hasRound dX12_hasRound_2 rfl
theorem dX12_hasRound_3 : decode cX12_hasRound 3 = .ok (.aload_n 0, 1) := by decide +kernel
theorem tX12_hasRound_3 {d : Nat} {l1 l2 : Option Value} {v0 : Value} {x : Nat} {m : jmM} {Q : Option Value → jmM → Prop} : AW d 209 3 [some (.ref x), l1, l2] [v0] m Q ↔ AW d 209 4 [some (.ref x), l1, l2] [.ref x, v0] m Q := A_aload_n hB_X12_hasRound dX12_hasRound_3 rfl
theorem dX12_hasRound_4 : decode cX12_hasRound 4 = .ok (.getfield 166, 3) := by decide +kernel
theorem tX12_hasRound_4 {d : Nat} {l0 l1 l2 : Option Value} {v1 : Value} {a : Nat} {m : jmM} {Q : Option Value → jmM → Prop} : AW d 209 4 [l0, l1, l2] [.ref a, v1] m Q ↔ (mS m a).1 = 12 ∧ AW d 209 7 [l0, l1, l2] [.int (mI m a 18), v1] m Q := A_getfield (f := fun m a => .int (mI m a 18)) hB_X12_hasRound dX12_hasRound_4 hO_X12_hasRound fF_12_166 rfl
theorem dX12_hasRound_7 : decode cX12_hasRound 7 = .ok (.if_icmp .ge 22, 3) := by decide +kernel
theorem tX12_hasRound_7 {d : Nat} {l0 l1 l2 : Option Value} {x y : Int32} {m : jmM} {Q : Option Value → jmM → Prop} : AW d 209 7 [l0, l1, l2] [.int y, .int x] m Q ↔ if y ≤ x then AW d 209 29 [l0, l1, l2] [] m Q else AW d 209 10 [l0, l1, l2] [] m Q := A_icmp_ge hB_X12_hasRound dX12_hasRound_7 (by decide)
theorem dX12_hasRound_10 : decode cX12_hasRound 10 = .ok (.aload_n 0, 1) := by decide +kernel
theorem tX12_hasRound_10 {d : Nat} {l1 l2 : Option Value} {x : Nat} {m : jmM} {Q : Option Value → jmM → Prop} : AW d 209 10 [some (.ref x), l1, l2] [] m Q ↔ AW d 209 11 [some (.ref x), l1, l2] [.ref x] m Q := A_aload_n hB_X12_hasRound dX12_hasRound_10 rfl
theorem dX12_hasRound_11 : decode cX12_hasRound 11 = .ok (.getfield 35, 3) := by decide +kernel
theorem tX12_hasRound_11 {d : Nat} {l0 l1 l2 : Option Value} {a : Nat} {m : jmM} {Q : Option Value → jmM → Prop} : AW d 209 11 [l0, l1, l2] [.ref a] m Q ↔ (mS m a).1 = 12 ∧ AW d 209 14 [l0, l1, l2] [va_rf (mR m a 17)] m Q := A_getfield (f := fun m a => va_rf (mR m a 17)) hB_X12_hasRound dX12_hasRound_11 hO_X12_hasRound fF_12_35 rfl
theorem dX12_hasRound_14 : decode cX12_hasRound 14 = .ok (.iload_n 2, 1) := by decide +kernel
theorem tX12_hasRound_14 {d : Nat} {l0 l1 : Option Value} {v0 : Value} {x : Int32} {m : jmM} {Q : Option Value → jmM → Prop} : AW d 209 14 [l0, l1, some (.int x)] [v0] m Q ↔ AW d 209 15 [l0, l1, some (.int x)] [.int x, v0] m Q := A_iload_n hB_X12_hasRound dX12_hasRound_14 rfl
theorem dX12_hasRound_15 : decode cX12_hasRound 15 = .ok (.iaload, 1) := by decide +kernel
theorem tX12_hasRound_15 {d : Nat} {l0 l1 l2 : Option Value} {i : Int32} {a : Nat} {m : jmM} {Q : Option Value → jmM → Prop} : AW d 209 15 [l0, l1, l2] [.int i, .ref a] m Q ↔ (((mS m a).1 = 20 ∨ a = jScr) ∧ jIx i (mS m a).2) ∧ AW d 209 16 [l0, l1, l2] [.int (mI m a (jx i))] m Q := A_iaload hB_X12_hasRound dX12_hasRound_15
theorem dX12_hasRound_16 : decode cX12_hasRound 16 = .ok (.bipush 40, 2) := by decide +kernel
theorem tX12_hasRound_16 {d : Nat} {l0 l1 l2 : Option Value} {v0 : Value} {m : jmM} {Q : Option Value → jmM → Prop} : AW d 209 16 [l0, l1, l2] [v0] m Q ↔ AW d 209 18 [l0, l1, l2] [.int 40, v0] m Q := A_bipush hB_X12_hasRound dX12_hasRound_16 rfl
theorem dX12_hasRound_18 : decode cX12_hasRound 18 = .ok (.if_icmp .ne 5, 3) := by decide +kernel
theorem tX12_hasRound_18 {d : Nat} {l0 l1 l2 : Option Value} {x y : Int32} {m : jmM} {Q : Option Value → jmM → Prop} : AW d 209 18 [l0, l1, l2] [.int y, .int x] m Q ↔ if x = y then AW d 209 21 [l0, l1, l2] [] m Q else AW d 209 23 [l0, l1, l2] [] m Q := A_icmp_ne hB_X12_hasRound dX12_hasRound_18 (by decide)
theorem dX12_hasRound_21 : decode cX12_hasRound 21 = .ok (.iconst 1, 1) := by decide +kernel
theorem tX12_hasRound_21 {d : Nat} {l0 l1 l2 : Option Value} {m : jmM} {Q : Option Value → jmM → Prop} : AW d 209 21 [l0, l1, l2] [] m Q ↔ AW d 209 22 [l0, l1, l2] [.int 1] m Q := A_iconst hB_X12_hasRound dX12_hasRound_21 (by decide)
theorem dX12_hasRound_22 : decode cX12_hasRound 22 = .ok (.ireturn, 1) := by decide +kernel
theorem tX12_hasRound_22 {d : Nat} {l0 l1 l2 : Option Value} {x : Int32} {m : jmM} {Q : Option Value → jmM → Prop} : AW d 209 22 [l0, l1, l2] [.int x] m Q ↔ jBool x ∧ Q (some (.int x)) m := A_zreturn hB_X12_hasRound dX12_hasRound_22 hR_X12_hasRound
theorem dX12_hasRound_23 : decode cX12_hasRound 23 = .ok (.iinc 2 1, 3) := by decide +kernel
theorem tX12_hasRound_23 {d : Nat} {l0 l1 : Option Value} {x : Int32} {m : jmM} {Q : Option Value → jmM → Prop} : AW d 209 23 [l0, l1, some (.int x)] [] m Q ↔ AW d 209 26 [l0, jc1 l1, some (.int (x + 1))] [] m Q := A_iinc hB_X12_hasRound dX12_hasRound_23 rfl (Nat.le_of_ble_eq_true rfl) (v := 1) (by decide) rfl
theorem dX12_hasRound_26 : decode cX12_hasRound 26 = .ok (.goto (-24), 3) := by decide +kernel
theorem tX12_hasRound_26 {d : Nat} {l0 l1 l2 : Option Value} {m : jmM} {Q : Option Value → jmM → Prop} : AW d 209 26 [l0, l1, l2] [] m Q ↔ AW d 209 2 [l0, l1, l2] [] m Q := A_goto hB_X12_hasRound dX12_hasRound_26 (by decide)
theorem dX12_hasRound_29 : decode cX12_hasRound 29 = .ok (.iconst 0, 1) := by decide +kernel
theorem tX12_hasRound_29 {d : Nat} {l0 l1 l2 : Option Value} {m : jmM} {Q : Option Value → jmM → Prop} : AW d 209 29 [l0, l1, l2] [] m Q ↔ AW d 209 30 [l0, l1, l2] [.int 0] m Q := A_iconst hB_X12_hasRound dX12_hasRound_29 (by decide)
theorem dX12_hasRound_30 : decode cX12_hasRound 30 = .ok (.ireturn, 1) := by decide +kernel
theorem tX12_hasRound_30 {d : Nat} {l0 l1 l2 : Option Value} {x : Int32} {m : jmM} {Q : Option Value → jmM → Prop} : AW d 209 30 [l0, l1, l2] [.int x] m Q ↔ jBool x ∧ Q (some (.int x)) m := A_zreturn hB_X12_hasRound dX12_hasRound_30 hR_X12_hasRound
theorem hB_X12_closesRound : jB 210 = cX12_closesRound := rfl
theorem hO_X12_closesRound : jO 210 = 12 := rfl
theorem hR_X12_closesRound : jRt 210 = none := rfl
theorem nX12_closesRound (d : Nat) (x0 : Nat) (x1 : Int32) (m : jmM) (Q : Option Value → jmM → Prop) : CC (d + 1) 210 [.ref x0, .int x1] m Q ↔ AW d 210 0 [some (.ref x0), some (.int x1)] [] m Q := CC_body (Nat.le_of_ble_eq_true rfl)
theorem dX12_closesRound_0 : decode cX12_closesRound 0 = .ok (.aload_n 0, 1) := by decide +kernel
theorem tX12_closesRound_0 {d : Nat} {l1 : Option Value} {x : Nat} {m : jmM} {Q : Option Value → jmM → Prop} : AW d 210 0 [some (.ref x), l1] [] m Q ↔ AW d 210 1 [some (.ref x), l1] [.ref x] m Q := A_aload_n hB_X12_closesRound dX12_closesRound_0 rfl
theorem dX12_closesRound_1 : decode cX12_closesRound 1 = .ok (.invokevirtual 114, 3) := by decide +kernel
theorem tX12_closesRound_1 {d : Nat} {l0 l1 : Option Value} {a : Nat} {m : jmM} {Q : Option Value → jmM → Prop} : AW d 210 1 [l0, l1] [.ref a] m Q ↔ (mS m a).1 = 12 ∧ CC d 195 [.ref a] m (jK d 210 4 [l0, l1] [] Q) := A_callV hB_X12_closesRound dX12_closesRound_1 hO_X12_closesRound fS_12_114 ⟨Nat.le_of_ble_eq_true rfl, Nat.le_of_ble_eq_true rfl⟩ rfl rfl rfl
theorem dX12_closesRound_4 : decode cX12_closesRound 4 = .ok (.bipush 41, 2) := by decide +kernel
theorem tX12_closesRound_4 {d : Nat} {l0 l1 : Option Value} {v0 : Value} {m : jmM} {Q : Option Value → jmM → Prop} : AW d 210 4 [l0, l1] [v0] m Q ↔ AW d 210 6 [l0, l1] [.int 41, v0] m Q := A_bipush hB_X12_closesRound dX12_closesRound_4 rfl
theorem dX12_closesRound_6 : decode cX12_closesRound 6 = .ok (.if_icmp .ne 50, 3) := by decide +kernel
theorem tX12_closesRound_6 {d : Nat} {l0 l1 : Option Value} {x y : Int32} {m : jmM} {Q : Option Value → jmM → Prop} : AW d 210 6 [l0, l1] [.int y, .int x] m Q ↔ if x = y then AW d 210 9 [l0, l1] [] m Q else AW d 210 56 [l0, l1] [] m Q := A_icmp_ne hB_X12_closesRound dX12_closesRound_6 (by decide)
theorem dX12_closesRound_9 : decode cX12_closesRound 9 = .ok (.aload_n 0, 1) := by decide +kernel
theorem tX12_closesRound_9 {d : Nat} {l1 : Option Value} {x : Nat} {m : jmM} {Q : Option Value → jmM → Prop} : AW d 210 9 [some (.ref x), l1] [] m Q ↔ AW d 210 10 [some (.ref x), l1] [.ref x] m Q := A_aload_n hB_X12_closesRound dX12_closesRound_9 rfl
theorem dX12_closesRound_10 : decode cX12_closesRound 10 = .ok (.iload_n 1, 1) := by decide +kernel
theorem tX12_closesRound_10 {d : Nat} {l0 : Option Value} {v0 : Value} {x : Int32} {m : jmM} {Q : Option Value → jmM → Prop} : AW d 210 10 [l0, some (.int x)] [v0] m Q ↔ AW d 210 11 [l0, some (.int x)] [.int x, v0] m Q := A_iload_n hB_X12_closesRound dX12_closesRound_10 rfl
theorem dX12_closesRound_11 : decode cX12_closesRound 11 = .ok (.invokevirtual 190, 3) := by decide +kernel
theorem tX12_closesRound_11 {d : Nat} {l0 l1 : Option Value} {y0 : Value} {a : Nat} {m : jmM} {Q : Option Value → jmM → Prop} : AW d 210 11 [l0, l1] [y0, .ref a] m Q ↔ (mS m a).1 = 12 ∧ CC d 209 [.ref a, y0] m (jK d 210 14 [l0, l1] [] Q) := A_callV hB_X12_closesRound dX12_closesRound_11 hO_X12_closesRound fS_12_190 ⟨Nat.le_of_ble_eq_true rfl, Nat.le_of_ble_eq_true rfl⟩ rfl rfl rfl
theorem dX12_closesRound_14 : decode cX12_closesRound 14 = .ok (.ifCond .eq 42, 3) := by decide +kernel
theorem tX12_closesRound_14 {d : Nat} {l0 l1 : Option Value} {x : Int32} {m : jmM} {Q : Option Value → jmM → Prop} : AW d 210 14 [l0, l1] [.int x] m Q ↔ if x = 0 then AW d 210 56 [l0, l1] [] m Q else AW d 210 17 [l0, l1] [] m Q := A_if_eq hB_X12_closesRound dX12_closesRound_14 (by decide)
theorem dX12_closesRound_17 : decode cX12_closesRound 17 = .ok (.aload_n 0, 1) := by decide +kernel
theorem tX12_closesRound_17 {d : Nat} {l1 : Option Value} {x : Nat} {m : jmM} {Q : Option Value → jmM → Prop} : AW d 210 17 [some (.ref x), l1] [] m Q ↔ AW d 210 18 [some (.ref x), l1] [.ref x] m Q := A_aload_n hB_X12_closesRound dX12_closesRound_17 rfl
theorem dX12_closesRound_18 : decode cX12_closesRound 18 = .ok (.iconst 5, 1) := by decide +kernel
theorem tX12_closesRound_18 {d : Nat} {l0 l1 : Option Value} {v0 : Value} {m : jmM} {Q : Option Value → jmM → Prop} : AW d 210 18 [l0, l1] [v0] m Q ↔ AW d 210 19 [l0, l1] [.int 5, v0] m Q := A_iconst hB_X12_closesRound dX12_closesRound_18 (by decide)
theorem dX12_closesRound_19 : decode cX12_closesRound 19 = .ok (.iload_n 1, 1) := by decide +kernel
theorem tX12_closesRound_19 {d : Nat} {l0 : Option Value} {v0 v1 : Value} {x : Int32} {m : jmM} {Q : Option Value → jmM → Prop} : AW d 210 19 [l0, some (.int x)] [v0, v1] m Q ↔ AW d 210 20 [l0, some (.int x)] [.int x, v0, v1] m Q := A_iload_n hB_X12_closesRound dX12_closesRound_19 rfl
theorem dX12_closesRound_20 : decode cX12_closesRound 20 = .ok (.invokevirtual 193, 3) := by decide +kernel
theorem tX12_closesRound_20 {d : Nat} {l0 l1 : Option Value} {y0 y1 : Value} {a : Nat} {m : jmM} {Q : Option Value → jmM → Prop} : AW d 210 20 [l0, l1] [y0, y1, .ref a] m Q ↔ (mS m a).1 = 12 ∧ CC d 207 [.ref a, y1, y0] m (jK d 210 23 [l0, l1] [] Q) := A_callV hB_X12_closesRound dX12_closesRound_20 hO_X12_closesRound fS_12_193 ⟨Nat.le_of_ble_eq_true rfl, Nat.le_of_ble_eq_true rfl⟩ rfl rfl rfl
theorem dX12_closesRound_23 : decode cX12_closesRound 23 = .ok (.aload_n 0, 1) := by decide +kernel
theorem tX12_closesRound_23 {d : Nat} {l1 : Option Value} {x : Nat} {m : jmM} {Q : Option Value → jmM → Prop} : AW d 210 23 [some (.ref x), l1] [] m Q ↔ AW d 210 24 [some (.ref x), l1] [.ref x] m Q := A_aload_n hB_X12_closesRound dX12_closesRound_23 rfl
theorem dX12_closesRound_24 : decode cX12_closesRound 24 = .ok (.dup, 1) := by decide +kernel
theorem tX12_closesRound_24 {d : Nat} {l0 l1 : Option Value} {x : Nat} {m : jmM} {Q : Option Value → jmM → Prop} : AW d 210 24 [l0, l1] [.ref x] m Q ↔ AW d 210 25 [l0, l1] [.ref x, .ref x] m Q := A_dup_a hB_X12_closesRound dX12_closesRound_24
theorem dX12_closesRound_25 : decode cX12_closesRound 25 = .ok (.getfield 166, 3) := by decide +kernel
theorem tX12_closesRound_25 {d : Nat} {l0 l1 : Option Value} {v1 : Value} {a : Nat} {m : jmM} {Q : Option Value → jmM → Prop} : AW d 210 25 [l0, l1] [.ref a, v1] m Q ↔ (mS m a).1 = 12 ∧ AW d 210 28 [l0, l1] [.int (mI m a 18), v1] m Q := A_getfield (f := fun m a => .int (mI m a 18)) hB_X12_closesRound dX12_closesRound_25 hO_X12_closesRound fF_12_166 rfl
theorem dX12_closesRound_28 : decode cX12_closesRound 28 = .ok (.iconst 1, 1) := by decide +kernel
theorem tX12_closesRound_28 {d : Nat} {l0 l1 : Option Value} {v0 v1 : Value} {m : jmM} {Q : Option Value → jmM → Prop} : AW d 210 28 [l0, l1] [v0, v1] m Q ↔ AW d 210 29 [l0, l1] [.int 1, v0, v1] m Q := A_iconst hB_X12_closesRound dX12_closesRound_28 (by decide)
theorem dX12_closesRound_29 : decode cX12_closesRound 29 = .ok (.isub, 1) := by decide +kernel
theorem tX12_closesRound_29 {d : Nat} {l0 l1 : Option Value} {v2 : Value} {x y : Int32} {m : jmM} {Q : Option Value → jmM → Prop} : AW d 210 29 [l0, l1] [.int y, .int x, v2] m Q ↔ AW d 210 30 [l0, l1] [.int (x - y), v2] m Q := A_isub hB_X12_closesRound dX12_closesRound_29
theorem dX12_closesRound_30 : decode cX12_closesRound 30 = .ok (.putfield 166, 3) := by decide +kernel
theorem tX12_closesRound_30 {d : Nat} {l0 l1 : Option Value} {x : Int32} {a : Nat} {m : jmM} {Q : Option Value → jmM → Prop} : AW d 210 30 [l0, l1] [.int x, .ref a] m Q ↔ (mS m a).1 = 12 ∧ AW d 210 33 [l0, l1] [] (cI m a (jup (mI m a) 18 x)) Q := A_putI hB_X12_closesRound dX12_closesRound_30 hO_X12_closesRound fF_12_166 rfl (fun h => Bool.noConfusion h)
theorem dX12_closesRound_33 : decode cX12_closesRound 33 = .ok (.aload_n 0, 1) := by decide +kernel
theorem tX12_closesRound_33 {d : Nat} {l1 : Option Value} {x : Nat} {m : jmM} {Q : Option Value → jmM → Prop} : AW d 210 33 [some (.ref x), l1] [] m Q ↔ AW d 210 34 [some (.ref x), l1] [.ref x] m Q := A_aload_n hB_X12_closesRound dX12_closesRound_33 rfl
theorem dX12_closesRound_34 : decode cX12_closesRound 34 = .ok (.dup, 1) := by decide +kernel
theorem tX12_closesRound_34 {d : Nat} {l0 l1 : Option Value} {x : Nat} {m : jmM} {Q : Option Value → jmM → Prop} : AW d 210 34 [l0, l1] [.ref x] m Q ↔ AW d 210 35 [l0, l1] [.ref x, .ref x] m Q := A_dup_a hB_X12_closesRound dX12_closesRound_34
theorem dX12_closesRound_35 : decode cX12_closesRound 35 = .ok (.getfield 163, 3) := by decide +kernel
theorem tX12_closesRound_35 {d : Nat} {l0 l1 : Option Value} {v1 : Value} {a : Nat} {m : jmM} {Q : Option Value → jmM → Prop} : AW d 210 35 [l0, l1] [.ref a, v1] m Q ↔ (mS m a).1 = 12 ∧ AW d 210 38 [l0, l1] [.int (mI m a 16), v1] m Q := A_getfield (f := fun m a => .int (mI m a 16)) hB_X12_closesRound dX12_closesRound_35 hO_X12_closesRound fF_12_163 rfl
theorem dX12_closesRound_38 : decode cX12_closesRound 38 = .ok (.iconst 1, 1) := by decide +kernel
theorem tX12_closesRound_38 {d : Nat} {l0 l1 : Option Value} {v0 v1 : Value} {m : jmM} {Q : Option Value → jmM → Prop} : AW d 210 38 [l0, l1] [v0, v1] m Q ↔ AW d 210 39 [l0, l1] [.int 1, v0, v1] m Q := A_iconst hB_X12_closesRound dX12_closesRound_38 (by decide)
theorem dX12_closesRound_39 : decode cX12_closesRound 39 = .ok (.isub, 1) := by decide +kernel
theorem tX12_closesRound_39 {d : Nat} {l0 l1 : Option Value} {v2 : Value} {x y : Int32} {m : jmM} {Q : Option Value → jmM → Prop} : AW d 210 39 [l0, l1] [.int y, .int x, v2] m Q ↔ AW d 210 40 [l0, l1] [.int (x - y), v2] m Q := A_isub hB_X12_closesRound dX12_closesRound_39
theorem dX12_closesRound_40 : decode cX12_closesRound 40 = .ok (.putfield 163, 3) := by decide +kernel
theorem tX12_closesRound_40 {d : Nat} {l0 l1 : Option Value} {x : Int32} {a : Nat} {m : jmM} {Q : Option Value → jmM → Prop} : AW d 210 40 [l0, l1] [.int x, .ref a] m Q ↔ (mS m a).1 = 12 ∧ AW d 210 43 [l0, l1] [] (cI m a (jup (mI m a) 16 x)) Q := A_putI hB_X12_closesRound dX12_closesRound_40 hO_X12_closesRound fF_12_163 rfl (fun h => Bool.noConfusion h)
theorem dX12_closesRound_43 : decode cX12_closesRound 43 = .ok (.aload_n 0, 1) := by decide +kernel
theorem tX12_closesRound_43 {d : Nat} {l1 : Option Value} {x : Nat} {m : jmM} {Q : Option Value → jmM → Prop} : AW d 210 43 [some (.ref x), l1] [] m Q ↔ AW d 210 44 [some (.ref x), l1] [.ref x] m Q := A_aload_n hB_X12_closesRound dX12_closesRound_43 rfl
theorem dX12_closesRound_44 : decode cX12_closesRound 44 = .ok (.dup, 1) := by decide +kernel
theorem tX12_closesRound_44 {d : Nat} {l0 l1 : Option Value} {x : Nat} {m : jmM} {Q : Option Value → jmM → Prop} : AW d 210 44 [l0, l1] [.ref x] m Q ↔ AW d 210 45 [l0, l1] [.ref x, .ref x] m Q := A_dup_a hB_X12_closesRound dX12_closesRound_44
theorem dX12_closesRound_45 : decode cX12_closesRound 45 = .ok (.getfield 111, 3) := by decide +kernel
theorem tX12_closesRound_45 {d : Nat} {l0 l1 : Option Value} {v1 : Value} {a : Nat} {m : jmM} {Q : Option Value → jmM → Prop} : AW d 210 45 [l0, l1] [.ref a, v1] m Q ↔ (mS m a).1 = 12 ∧ AW d 210 48 [l0, l1] [.int (mI m a 11), v1] m Q := A_getfield (f := fun m a => .int (mI m a 11)) hB_X12_closesRound dX12_closesRound_45 hO_X12_closesRound fF_12_111 rfl
theorem dX12_closesRound_48 : decode cX12_closesRound 48 = .ok (.iconst 1, 1) := by decide +kernel
theorem tX12_closesRound_48 {d : Nat} {l0 l1 : Option Value} {v0 v1 : Value} {m : jmM} {Q : Option Value → jmM → Prop} : AW d 210 48 [l0, l1] [v0, v1] m Q ↔ AW d 210 49 [l0, l1] [.int 1, v0, v1] m Q := A_iconst hB_X12_closesRound dX12_closesRound_48 (by decide)
theorem dX12_closesRound_49 : decode cX12_closesRound 49 = .ok (.iadd, 1) := by decide +kernel
theorem tX12_closesRound_49 {d : Nat} {l0 l1 : Option Value} {v2 : Value} {x y : Int32} {m : jmM} {Q : Option Value → jmM → Prop} : AW d 210 49 [l0, l1] [.int y, .int x, v2] m Q ↔ AW d 210 50 [l0, l1] [.int (x + y), v2] m Q := A_iadd hB_X12_closesRound dX12_closesRound_49
theorem dX12_closesRound_50 : decode cX12_closesRound 50 = .ok (.putfield 111, 3) := by decide +kernel
theorem tX12_closesRound_50 {d : Nat} {l0 l1 : Option Value} {x : Int32} {a : Nat} {m : jmM} {Q : Option Value → jmM → Prop} : AW d 210 50 [l0, l1] [.int x, .ref a] m Q ↔ (mS m a).1 = 12 ∧ AW d 210 53 [l0, l1] [] (cI m a (jup (mI m a) 11 x)) Q := A_putI hB_X12_closesRound dX12_closesRound_50 hO_X12_closesRound fF_12_111 rfl (fun h => Bool.noConfusion h)
theorem dX12_closesRound_53 : decode cX12_closesRound 53 = .ok (.goto (-53), 3) := by decide +kernel
theorem tX12_closesRound_53 {d : Nat} {l0 l1 : Option Value} {m : jmM} {Q : Option Value → jmM → Prop} : AW d 210 53 [l0, l1] [] m Q ↔ AW d 210 0 [l0, l1] [] m Q := A_goto hB_X12_closesRound dX12_closesRound_53 (by decide)
theorem dX12_closesRound_56 : decode cX12_closesRound 56 = .ok (.return_, 1) := by decide +kernel
theorem tX12_closesRound_56 {d : Nat} {l0 l1 : Option Value} {m : jmM} {Q : Option Value → jmM → Prop} : AW d 210 56 [l0, l1] [] m Q ↔ Q none m := A_return hB_X12_closesRound dX12_closesRound_56 hR_X12_closesRound
theorem hB_X12_sum : jB 211 = cX12_sum := rfl
theorem hO_X12_sum : jO 211 = 12 := rfl
theorem hR_X12_sum : jRt 211 = (some .boolean) := rfl
theorem nX12_sum (d : Nat) (x0 : Nat) (m : jmM) (Q : Option Value → jmM → Prop) : CC (d + 1) 211 [.ref x0] m Q ↔ AW d 211 0 [some (.ref x0), none, none, none, none] [] m Q := CC_body (Nat.le_of_ble_eq_true rfl)
theorem dX12_sum_0 : decode cX12_sum 0 = .ok (.aload_n 0, 1) := by decide +kernel
theorem tX12_sum_0 {d : Nat} {l1 l2 l3 l4 : Option Value} {x : Nat} {m : jmM} {Q : Option Value → jmM → Prop} : AW d 211 0 [some (.ref x), l1, l2, l3, l4] [] m Q ↔ AW d 211 1 [some (.ref x), l1, l2, l3, l4] [.ref x] m Q := A_aload_n hB_X12_sum dX12_sum_0 rfl
theorem dX12_sum_1 : decode cX12_sum 1 = .ok (.getfield 166, 3) := by decide +kernel
theorem tX12_sum_1 {d : Nat} {l0 l1 l2 l3 l4 : Option Value} {a : Nat} {m : jmM} {Q : Option Value → jmM → Prop} : AW d 211 1 [l0, l1, l2, l3, l4] [.ref a] m Q ↔ (mS m a).1 = 12 ∧ AW d 211 4 [l0, l1, l2, l3, l4] [.int (mI m a 18)] m Q := A_getfield (f := fun m a => .int (mI m a 18)) hB_X12_sum dX12_sum_1 hO_X12_sum fF_12_166 rfl
theorem dX12_sum_4 : decode cX12_sum 4 = .ok (.istore_n 1, 1) := by decide +kernel
theorem tX12_sum_4 {d : Nat} {l0 l1 l2 l3 l4 : Option Value} {x : Int32} {m : jmM} {Q : Option Value → jmM → Prop} : AW d 211 4 [l0, l1, l2, l3, l4] [.int x] m Q ↔ AW d 211 5 [jc1 l0, some (.int x), l2, l3, l4] [] m Q := A_istore_n hB_X12_sum dX12_sum_4 (Nat.le_of_ble_eq_true rfl) rfl
theorem dX12_sum_5 : decode cX12_sum 5 = .ok (.iconst 1, 1) := by decide +kernel
theorem tX12_sum_5 {d : Nat} {l0 l1 l2 l3 l4 : Option Value} {m : jmM} {Q : Option Value → jmM → Prop} : AW d 211 5 [l0, l1, l2, l3, l4] [] m Q ↔ AW d 211 6 [l0, l1, l2, l3, l4] [.int 1] m Q := A_iconst hB_X12_sum dX12_sum_5 (by decide)
theorem dX12_sum_6 : decode cX12_sum 6 = .ok (.istore_n 2, 1) := by decide +kernel
theorem tX12_sum_6 {d : Nat} {l0 l1 l2 l3 l4 : Option Value} {x : Int32} {m : jmM} {Q : Option Value → jmM → Prop} : AW d 211 6 [l0, l1, l2, l3, l4] [.int x] m Q ↔ AW d 211 7 [l0, jc1 l1, some (.int x), l3, l4] [] m Q := A_istore_n hB_X12_sum dX12_sum_6 (Nat.le_of_ble_eq_true rfl) rfl
theorem dX12_sum_7 : decode cX12_sum 7 = .ok (.iload_n 2, 1) := by decide +kernel
theorem tX12_sum_7 {d : Nat} {l0 l1 l3 l4 : Option Value} {x : Int32} {m : jmM} {Q : Option Value → jmM → Prop} : AW d 211 7 [l0, l1, some (.int x), l3, l4] [] m Q ↔ AW d 211 8 [l0, l1, some (.int x), l3, l4] [.int x] m Q := A_iload_n hB_X12_sum dX12_sum_7 rfl
theorem dX12_sum_8 : decode cX12_sum 8 = .ok (.ifCond .eq 133, 3) := by decide +kernel
theorem tX12_sum_8 {d : Nat} {l0 l1 l2 l3 l4 : Option Value} {x : Int32} {m : jmM} {Q : Option Value → jmM → Prop} : AW d 211 8 [l0, l1, l2, l3, l4] [.int x] m Q ↔ if x = 0 then AW d 211 141 [l0, l1, l2, l3, l4] [] m Q else AW d 211 11 [l0, l1, l2, l3, l4] [] m Q := A_if_eq hB_X12_sum dX12_sum_8 (by decide)
theorem dX12_sum_11 : decode cX12_sum 11 = .ok (.aload_n 0, 1) := by decide +kernel
theorem tX12_sum_11 {d : Nat} {l1 l2 l3 l4 : Option Value} {x : Nat} {m : jmM} {Q : Option Value → jmM → Prop} : AW d 211 11 [some (.ref x), l1, l2, l3, l4] [] m Q ↔ AW d 211 12 [some (.ref x), l1, l2, l3, l4] [.ref x] m Q := A_aload_n hB_X12_sum dX12_sum_11 rfl
theorem dX12_sum_12 : decode cX12_sum 12 = .ok (.invokevirtual 196, 3) := by decide +kernel
theorem tX12_sum_12 {d : Nat} {l0 l1 l2 l3 l4 : Option Value} {a : Nat} {m : jmM} {Q : Option Value → jmM → Prop} : AW d 211 12 [l0, l1, l2, l3, l4] [.ref a] m Q ↔ (mS m a).1 = 12 ∧ CC d 208 [.ref a] m (jK d 211 15 [l0, l1, l2, l3, l4] [] Q) := A_callV hB_X12_sum dX12_sum_12 hO_X12_sum fS_12_196 ⟨Nat.le_of_ble_eq_true rfl, Nat.le_of_ble_eq_true rfl⟩ rfl rfl rfl
theorem dX12_sum_15 : decode cX12_sum 15 = .ok (.ifCond .ne 5, 3) := by decide +kernel
theorem tX12_sum_15 {d : Nat} {l0 l1 l2 l3 l4 : Option Value} {x : Int32} {m : jmM} {Q : Option Value → jmM → Prop} : AW d 211 15 [l0, l1, l2, l3, l4] [.int x] m Q ↔ if x = 0 then AW d 211 18 [l0, l1, l2, l3, l4] [] m Q else AW d 211 20 [l0, l1, l2, l3, l4] [] m Q := A_if_ne hB_X12_sum dX12_sum_15 (by decide)
theorem dX12_sum_18 : decode cX12_sum 18 = .ok (.iconst 0, 1) := by decide +kernel
theorem tX12_sum_18 {d : Nat} {l0 l1 l2 l3 l4 : Option Value} {m : jmM} {Q : Option Value → jmM → Prop} : AW d 211 18 [l0, l1, l2, l3, l4] [] m Q ↔ AW d 211 19 [l0, l1, l2, l3, l4] [.int 0] m Q := A_iconst hB_X12_sum dX12_sum_18 (by decide)
theorem dX12_sum_19 : decode cX12_sum 19 = .ok (.ireturn, 1) := by decide +kernel
theorem tX12_sum_19 {d : Nat} {l0 l1 l2 l3 l4 : Option Value} {x : Int32} {m : jmM} {Q : Option Value → jmM → Prop} : AW d 211 19 [l0, l1, l2, l3, l4] [.int x] m Q ↔ jBool x ∧ Q (some (.int x)) m := A_zreturn hB_X12_sum dX12_sum_19 hR_X12_sum
theorem dX12_sum_20 : decode cX12_sum 20 = .ok (.aload_n 0, 1) := by decide +kernel
theorem tX12_sum_20 {d : Nat} {l1 l2 l3 l4 : Option Value} {x : Nat} {m : jmM} {Q : Option Value → jmM → Prop} : AW d 211 20 [some (.ref x), l1, l2, l3, l4] [] m Q ↔ AW d 211 21 [some (.ref x), l1, l2, l3, l4] [.ref x] m Q := A_aload_n hB_X12_sum dX12_sum_20 rfl
theorem dX12_sum_21 : decode cX12_sum 21 = .ok (.iload_n 1, 1) := by decide +kernel
theorem tX12_sum_21 {d : Nat} {l0 l2 l3 l4 : Option Value} {v0 : Value} {x : Int32} {m : jmM} {Q : Option Value → jmM → Prop} : AW d 211 21 [l0, some (.int x), l2, l3, l4] [v0] m Q ↔ AW d 211 22 [l0, some (.int x), l2, l3, l4] [.int x, v0] m Q := A_iload_n hB_X12_sum dX12_sum_21 rfl
theorem dX12_sum_22 : decode cX12_sum 22 = .ok (.invokevirtual 200, 3) := by decide +kernel
theorem tX12_sum_22 {d : Nat} {l0 l1 l2 l3 l4 : Option Value} {y0 : Value} {a : Nat} {m : jmM} {Q : Option Value → jmM → Prop} : AW d 211 22 [l0, l1, l2, l3, l4] [y0, .ref a] m Q ↔ (mS m a).1 = 12 ∧ CC d 210 [.ref a, y0] m (jK d 211 25 [l0, l1, l2, l3, l4] [] Q) := A_callV hB_X12_sum dX12_sum_22 hO_X12_sum fS_12_200 ⟨Nat.le_of_ble_eq_true rfl, Nat.le_of_ble_eq_true rfl⟩ rfl rfl rfl
theorem dX12_sum_25 : decode cX12_sum 25 = .ok (.aload_n 0, 1) := by decide +kernel
theorem tX12_sum_25 {d : Nat} {l1 l2 l3 l4 : Option Value} {x : Nat} {m : jmM} {Q : Option Value → jmM → Prop} : AW d 211 25 [some (.ref x), l1, l2, l3, l4] [] m Q ↔ AW d 211 26 [some (.ref x), l1, l2, l3, l4] [.ref x] m Q := A_aload_n hB_X12_sum dX12_sum_25 rfl
theorem dX12_sum_26 : decode cX12_sum 26 = .ok (.invokevirtual 114, 3) := by decide +kernel
theorem tX12_sum_26 {d : Nat} {l0 l1 l2 l3 l4 : Option Value} {a : Nat} {m : jmM} {Q : Option Value → jmM → Prop} : AW d 211 26 [l0, l1, l2, l3, l4] [.ref a] m Q ↔ (mS m a).1 = 12 ∧ CC d 195 [.ref a] m (jK d 211 29 [l0, l1, l2, l3, l4] [] Q) := A_callV hB_X12_sum dX12_sum_26 hO_X12_sum fS_12_114 ⟨Nat.le_of_ble_eq_true rfl, Nat.le_of_ble_eq_true rfl⟩ rfl rfl rfl
theorem dX12_sum_29 : decode cX12_sum 29 = .ok (.istore_n 3, 1) := by decide +kernel
theorem tX12_sum_29 {d : Nat} {l0 l1 l2 l3 l4 : Option Value} {x : Int32} {m : jmM} {Q : Option Value → jmM → Prop} : AW d 211 29 [l0, l1, l2, l3, l4] [.int x] m Q ↔ AW d 211 30 [l0, l1, jc1 l2, some (.int x), l4] [] m Q := A_istore_n hB_X12_sum dX12_sum_29 (Nat.le_of_ble_eq_true rfl) rfl
theorem dX12_sum_30 : decode cX12_sum 30 = .ok (.iload_n 3, 1) := by decide +kernel
theorem tX12_sum_30 {d : Nat} {l0 l1 l2 l4 : Option Value} {x : Int32} {m : jmM} {Q : Option Value → jmM → Prop} : AW d 211 30 [l0, l1, l2, some (.int x), l4] [] m Q ↔ AW d 211 31 [l0, l1, l2, some (.int x), l4] [.int x] m Q := A_iload_n hB_X12_sum dX12_sum_30 rfl
theorem dX12_sum_31 : decode cX12_sum 31 = .ok (.bipush 43, 2) := by decide +kernel
theorem tX12_sum_31 {d : Nat} {l0 l1 l2 l3 l4 : Option Value} {v0 : Value} {m : jmM} {Q : Option Value → jmM → Prop} : AW d 211 31 [l0, l1, l2, l3, l4] [v0] m Q ↔ AW d 211 33 [l0, l1, l2, l3, l4] [.int 43, v0] m Q := A_bipush hB_X12_sum dX12_sum_31 rfl
theorem dX12_sum_33 : decode cX12_sum 33 = .ok (.if_icmp .eq 21, 3) := by decide +kernel
theorem tX12_sum_33 {d : Nat} {l0 l1 l2 l3 l4 : Option Value} {x y : Int32} {m : jmM} {Q : Option Value → jmM → Prop} : AW d 211 33 [l0, l1, l2, l3, l4] [.int y, .int x] m Q ↔ if x = y then AW d 211 54 [l0, l1, l2, l3, l4] [] m Q else AW d 211 36 [l0, l1, l2, l3, l4] [] m Q := A_icmp_eq hB_X12_sum dX12_sum_33 (by decide)
theorem dX12_sum_36 : decode cX12_sum 36 = .ok (.iload_n 3, 1) := by decide +kernel
theorem tX12_sum_36 {d : Nat} {l0 l1 l2 l4 : Option Value} {x : Int32} {m : jmM} {Q : Option Value → jmM → Prop} : AW d 211 36 [l0, l1, l2, some (.int x), l4] [] m Q ↔ AW d 211 37 [l0, l1, l2, some (.int x), l4] [.int x] m Q := A_iload_n hB_X12_sum dX12_sum_36 rfl
theorem dX12_sum_37 : decode cX12_sum 37 = .ok (.bipush 45, 2) := by decide +kernel
theorem tX12_sum_37 {d : Nat} {l0 l1 l2 l3 l4 : Option Value} {v0 : Value} {m : jmM} {Q : Option Value → jmM → Prop} : AW d 211 37 [l0, l1, l2, l3, l4] [v0] m Q ↔ AW d 211 39 [l0, l1, l2, l3, l4] [.int 45, v0] m Q := A_bipush hB_X12_sum dX12_sum_37 rfl
theorem dX12_sum_39 : decode cX12_sum 39 = .ok (.if_icmp .eq 15, 3) := by decide +kernel
theorem tX12_sum_39 {d : Nat} {l0 l1 l2 l3 l4 : Option Value} {x y : Int32} {m : jmM} {Q : Option Value → jmM → Prop} : AW d 211 39 [l0, l1, l2, l3, l4] [.int y, .int x] m Q ↔ if x = y then AW d 211 54 [l0, l1, l2, l3, l4] [] m Q else AW d 211 42 [l0, l1, l2, l3, l4] [] m Q := A_icmp_eq hB_X12_sum dX12_sum_39 (by decide)
theorem dX12_sum_42 : decode cX12_sum 42 = .ok (.iload_n 3, 1) := by decide +kernel
theorem tX12_sum_42 {d : Nat} {l0 l1 l2 l4 : Option Value} {x : Int32} {m : jmM} {Q : Option Value → jmM → Prop} : AW d 211 42 [l0, l1, l2, some (.int x), l4] [] m Q ↔ AW d 211 43 [l0, l1, l2, some (.int x), l4] [.int x] m Q := A_iload_n hB_X12_sum dX12_sum_42 rfl
theorem dX12_sum_43 : decode cX12_sum 43 = .ok (.bipush 42, 2) := by decide +kernel
theorem tX12_sum_43 {d : Nat} {l0 l1 l2 l3 l4 : Option Value} {v0 : Value} {m : jmM} {Q : Option Value → jmM → Prop} : AW d 211 43 [l0, l1, l2, l3, l4] [v0] m Q ↔ AW d 211 45 [l0, l1, l2, l3, l4] [.int 42, v0] m Q := A_bipush hB_X12_sum dX12_sum_43 rfl
theorem dX12_sum_45 : decode cX12_sum 45 = .ok (.if_icmp .eq 9, 3) := by decide +kernel
theorem tX12_sum_45 {d : Nat} {l0 l1 l2 l3 l4 : Option Value} {x y : Int32} {m : jmM} {Q : Option Value → jmM → Prop} : AW d 211 45 [l0, l1, l2, l3, l4] [.int y, .int x] m Q ↔ if x = y then AW d 211 54 [l0, l1, l2, l3, l4] [] m Q else AW d 211 48 [l0, l1, l2, l3, l4] [] m Q := A_icmp_eq hB_X12_sum dX12_sum_45 (by decide)
theorem dX12_sum_48 : decode cX12_sum 48 = .ok (.iload_n 3, 1) := by decide +kernel
theorem tX12_sum_48 {d : Nat} {l0 l1 l2 l4 : Option Value} {x : Int32} {m : jmM} {Q : Option Value → jmM → Prop} : AW d 211 48 [l0, l1, l2, some (.int x), l4] [] m Q ↔ AW d 211 49 [l0, l1, l2, some (.int x), l4] [.int x] m Q := A_iload_n hB_X12_sum dX12_sum_48 rfl
theorem dX12_sum_49 : decode cX12_sum 49 = .ok (.bipush 47, 2) := by decide +kernel
theorem tX12_sum_49 {d : Nat} {l0 l1 l2 l3 l4 : Option Value} {v0 : Value} {m : jmM} {Q : Option Value → jmM → Prop} : AW d 211 49 [l0, l1, l2, l3, l4] [v0] m Q ↔ AW d 211 51 [l0, l1, l2, l3, l4] [.int 47, v0] m Q := A_bipush hB_X12_sum dX12_sum_49 rfl
theorem dX12_sum_51 : decode cX12_sum 51 = .ok (.if_icmp .ne 7, 3) := by decide +kernel
theorem tX12_sum_51 {d : Nat} {l0 l1 l2 l3 l4 : Option Value} {x y : Int32} {m : jmM} {Q : Option Value → jmM → Prop} : AW d 211 51 [l0, l1, l2, l3, l4] [.int y, .int x] m Q ↔ if x = y then AW d 211 54 [l0, l1, l2, l3, l4] [] m Q else AW d 211 58 [l0, l1, l2, l3, l4] [] m Q := A_icmp_ne hB_X12_sum dX12_sum_51 (by decide)
theorem dX12_sum_54 : decode cX12_sum 54 = .ok (.iconst 1, 1) := by decide +kernel
theorem tX12_sum_54 {d : Nat} {l0 l1 l2 l3 l4 : Option Value} {m : jmM} {Q : Option Value → jmM → Prop} : AW d 211 54 [l0, l1, l2, l3, l4] [] m Q ↔ AW d 211 55 [l0, l1, l2, l3, l4] [.int 1] m Q := A_iconst hB_X12_sum dX12_sum_54 (by decide)
theorem dX12_sum_55 : decode cX12_sum 55 = .ok (.goto 4, 3) := by decide +kernel
theorem tX12_sum_55 {d : Nat} {l0 l1 l2 l3 l4 : Option Value} {v0 : Value} {m : jmM} {Q : Option Value → jmM → Prop} : AW d 211 55 [l0, l1, l2, l3, l4] [v0] m Q ↔ AW d 211 59 [l0, l1, l2, l3, l4] [v0] m Q := A_goto hB_X12_sum dX12_sum_55 (by decide)
theorem dX12_sum_58 : decode cX12_sum 58 = .ok (.iconst 0, 1) := by decide +kernel
theorem tX12_sum_58 {d : Nat} {l0 l1 l2 l3 l4 : Option Value} {m : jmM} {Q : Option Value → jmM → Prop} : AW d 211 58 [l0, l1, l2, l3, l4] [] m Q ↔ AW d 211 59 [l0, l1, l2, l3, l4] [.int 0] m Q := A_iconst hB_X12_sum dX12_sum_58 (by decide)
theorem dX12_sum_59 : decode cX12_sum 59 = .ok (.istore_n 2, 1) := by decide +kernel
theorem tX12_sum_59 {d : Nat} {l0 l1 l2 l3 l4 : Option Value} {x : Int32} {m : jmM} {Q : Option Value → jmM → Prop} : AW d 211 59 [l0, l1, l2, l3, l4] [.int x] m Q ↔ AW d 211 60 [l0, jc1 l1, some (.int x), l3, l4] [] m Q := A_istore_n hB_X12_sum dX12_sum_59 (Nat.le_of_ble_eq_true rfl) rfl
theorem dX12_sum_60 : decode cX12_sum 60 = .ok (.iload_n 2, 1) := by decide +kernel
theorem tX12_sum_60 {d : Nat} {l0 l1 l3 l4 : Option Value} {x : Int32} {m : jmM} {Q : Option Value → jmM → Prop} : AW d 211 60 [l0, l1, some (.int x), l3, l4] [] m Q ↔ AW d 211 61 [l0, l1, some (.int x), l3, l4] [.int x] m Q := A_iload_n hB_X12_sum dX12_sum_60 rfl
theorem dX12_sum_61 : decode cX12_sum 61 = .ok (.ifCond .eq 77, 3) := by decide +kernel
theorem tX12_sum_61 {d : Nat} {l0 l1 l2 l3 l4 : Option Value} {x : Int32} {m : jmM} {Q : Option Value → jmM → Prop} : AW d 211 61 [l0, l1, l2, l3, l4] [.int x] m Q ↔ if x = 0 then AW d 211 138 [l0, l1, l2, l3, l4] [] m Q else AW d 211 64 [l0, l1, l2, l3, l4] [] m Q := A_if_eq hB_X12_sum dX12_sum_61 (by decide)
theorem dX12_sum_64 : decode cX12_sum 64 = .ok (.iload_n 3, 1) := by decide +kernel
theorem tX12_sum_64 {d : Nat} {l0 l1 l2 l4 : Option Value} {x : Int32} {m : jmM} {Q : Option Value → jmM → Prop} : AW d 211 64 [l0, l1, l2, some (.int x), l4] [] m Q ↔ AW d 211 65 [l0, l1, l2, some (.int x), l4] [.int x] m Q := A_iload_n hB_X12_sum dX12_sum_64 rfl
theorem dX12_sum_65 : decode cX12_sum 65 = .ok (.bipush 43, 2) := by decide +kernel
theorem tX12_sum_65 {d : Nat} {l0 l1 l2 l3 l4 : Option Value} {v0 : Value} {m : jmM} {Q : Option Value → jmM → Prop} : AW d 211 65 [l0, l1, l2, l3, l4] [v0] m Q ↔ AW d 211 67 [l0, l1, l2, l3, l4] [.int 43, v0] m Q := A_bipush hB_X12_sum dX12_sum_65 rfl
theorem dX12_sum_67 : decode cX12_sum 67 = .ok (.if_icmp .ne 7, 3) := by decide +kernel
theorem tX12_sum_67 {d : Nat} {l0 l1 l2 l3 l4 : Option Value} {x y : Int32} {m : jmM} {Q : Option Value → jmM → Prop} : AW d 211 67 [l0, l1, l2, l3, l4] [.int y, .int x] m Q ↔ if x = y then AW d 211 70 [l0, l1, l2, l3, l4] [] m Q else AW d 211 74 [l0, l1, l2, l3, l4] [] m Q := A_icmp_ne hB_X12_sum dX12_sum_67 (by decide)
theorem dX12_sum_70 : decode cX12_sum 70 = .ok (.iconst 2, 1) := by decide +kernel
theorem tX12_sum_70 {d : Nat} {l0 l1 l2 l3 l4 : Option Value} {m : jmM} {Q : Option Value → jmM → Prop} : AW d 211 70 [l0, l1, l2, l3, l4] [] m Q ↔ AW d 211 71 [l0, l1, l2, l3, l4] [.int 2] m Q := A_iconst hB_X12_sum dX12_sum_70 (by decide)
theorem dX12_sum_71 : decode cX12_sum 71 = .ok (.goto 24, 3) := by decide +kernel
theorem tX12_sum_71 {d : Nat} {l0 l1 l2 l3 l4 : Option Value} {v0 : Value} {m : jmM} {Q : Option Value → jmM → Prop} : AW d 211 71 [l0, l1, l2, l3, l4] [v0] m Q ↔ AW d 211 95 [l0, l1, l2, l3, l4] [v0] m Q := A_goto hB_X12_sum dX12_sum_71 (by decide)
theorem dX12_sum_74 : decode cX12_sum 74 = .ok (.iload_n 3, 1) := by decide +kernel
theorem tX12_sum_74 {d : Nat} {l0 l1 l2 l4 : Option Value} {x : Int32} {m : jmM} {Q : Option Value → jmM → Prop} : AW d 211 74 [l0, l1, l2, some (.int x), l4] [] m Q ↔ AW d 211 75 [l0, l1, l2, some (.int x), l4] [.int x] m Q := A_iload_n hB_X12_sum dX12_sum_74 rfl
theorem dX12_sum_75 : decode cX12_sum 75 = .ok (.bipush 45, 2) := by decide +kernel
theorem tX12_sum_75 {d : Nat} {l0 l1 l2 l3 l4 : Option Value} {v0 : Value} {m : jmM} {Q : Option Value → jmM → Prop} : AW d 211 75 [l0, l1, l2, l3, l4] [v0] m Q ↔ AW d 211 77 [l0, l1, l2, l3, l4] [.int 45, v0] m Q := A_bipush hB_X12_sum dX12_sum_75 rfl
theorem dX12_sum_77 : decode cX12_sum 77 = .ok (.if_icmp .ne 7, 3) := by decide +kernel
theorem tX12_sum_77 {d : Nat} {l0 l1 l2 l3 l4 : Option Value} {x y : Int32} {m : jmM} {Q : Option Value → jmM → Prop} : AW d 211 77 [l0, l1, l2, l3, l4] [.int y, .int x] m Q ↔ if x = y then AW d 211 80 [l0, l1, l2, l3, l4] [] m Q else AW d 211 84 [l0, l1, l2, l3, l4] [] m Q := A_icmp_ne hB_X12_sum dX12_sum_77 (by decide)
theorem dX12_sum_80 : decode cX12_sum 80 = .ok (.iconst 3, 1) := by decide +kernel
theorem tX12_sum_80 {d : Nat} {l0 l1 l2 l3 l4 : Option Value} {m : jmM} {Q : Option Value → jmM → Prop} : AW d 211 80 [l0, l1, l2, l3, l4] [] m Q ↔ AW d 211 81 [l0, l1, l2, l3, l4] [.int 3] m Q := A_iconst hB_X12_sum dX12_sum_80 (by decide)
theorem dX12_sum_81 : decode cX12_sum 81 = .ok (.goto 14, 3) := by decide +kernel
theorem tX12_sum_81 {d : Nat} {l0 l1 l2 l3 l4 : Option Value} {v0 : Value} {m : jmM} {Q : Option Value → jmM → Prop} : AW d 211 81 [l0, l1, l2, l3, l4] [v0] m Q ↔ AW d 211 95 [l0, l1, l2, l3, l4] [v0] m Q := A_goto hB_X12_sum dX12_sum_81 (by decide)
theorem dX12_sum_84 : decode cX12_sum 84 = .ok (.iload_n 3, 1) := by decide +kernel
theorem tX12_sum_84 {d : Nat} {l0 l1 l2 l4 : Option Value} {x : Int32} {m : jmM} {Q : Option Value → jmM → Prop} : AW d 211 84 [l0, l1, l2, some (.int x), l4] [] m Q ↔ AW d 211 85 [l0, l1, l2, some (.int x), l4] [.int x] m Q := A_iload_n hB_X12_sum dX12_sum_84 rfl
theorem dX12_sum_85 : decode cX12_sum 85 = .ok (.bipush 42, 2) := by decide +kernel
theorem tX12_sum_85 {d : Nat} {l0 l1 l2 l3 l4 : Option Value} {v0 : Value} {m : jmM} {Q : Option Value → jmM → Prop} : AW d 211 85 [l0, l1, l2, l3, l4] [v0] m Q ↔ AW d 211 87 [l0, l1, l2, l3, l4] [.int 42, v0] m Q := A_bipush hB_X12_sum dX12_sum_85 rfl
theorem dX12_sum_87 : decode cX12_sum 87 = .ok (.if_icmp .ne 7, 3) := by decide +kernel
theorem tX12_sum_87 {d : Nat} {l0 l1 l2 l3 l4 : Option Value} {x y : Int32} {m : jmM} {Q : Option Value → jmM → Prop} : AW d 211 87 [l0, l1, l2, l3, l4] [.int y, .int x] m Q ↔ if x = y then AW d 211 90 [l0, l1, l2, l3, l4] [] m Q else AW d 211 94 [l0, l1, l2, l3, l4] [] m Q := A_icmp_ne hB_X12_sum dX12_sum_87 (by decide)
theorem dX12_sum_90 : decode cX12_sum 90 = .ok (.iconst 4, 1) := by decide +kernel
theorem tX12_sum_90 {d : Nat} {l0 l1 l2 l3 l4 : Option Value} {m : jmM} {Q : Option Value → jmM → Prop} : AW d 211 90 [l0, l1, l2, l3, l4] [] m Q ↔ AW d 211 91 [l0, l1, l2, l3, l4] [.int 4] m Q := A_iconst hB_X12_sum dX12_sum_90 (by decide)
theorem dX12_sum_91 : decode cX12_sum 91 = .ok (.goto 4, 3) := by decide +kernel
theorem tX12_sum_91 {d : Nat} {l0 l1 l2 l3 l4 : Option Value} {v0 : Value} {m : jmM} {Q : Option Value → jmM → Prop} : AW d 211 91 [l0, l1, l2, l3, l4] [v0] m Q ↔ AW d 211 95 [l0, l1, l2, l3, l4] [v0] m Q := A_goto hB_X12_sum dX12_sum_91 (by decide)
theorem dX12_sum_94 : decode cX12_sum 94 = .ok (.iconst 5, 1) := by decide +kernel
theorem tX12_sum_94 {d : Nat} {l0 l1 l2 l3 l4 : Option Value} {m : jmM} {Q : Option Value → jmM → Prop} : AW d 211 94 [l0, l1, l2, l3, l4] [] m Q ↔ AW d 211 95 [l0, l1, l2, l3, l4] [.int 5] m Q := A_iconst hB_X12_sum dX12_sum_94 (by decide)
theorem dX12_sum_95 : decode cX12_sum 95 = .ok (.istore 4, 2) := by decide +kernel
theorem tX12_sum_95 {d : Nat} {l0 l1 l2 l3 l4 : Option Value} {x : Int32} {m : jmM} {Q : Option Value → jmM → Prop} : AW d 211 95 [l0, l1, l2, l3, l4] [.int x] m Q ↔ AW d 211 97 [l0, l1, l2, jc1 l3, some (.int x)] [] m Q := A_istore hB_X12_sum dX12_sum_95 (Nat.le_of_ble_eq_true rfl) rfl
theorem dX12_sum_97 : decode cX12_sum 97 = .ok (.aload_n 0, 1) := by decide +kernel
theorem tX12_sum_97 {d : Nat} {l1 l2 l3 l4 : Option Value} {x : Nat} {m : jmM} {Q : Option Value → jmM → Prop} : AW d 211 97 [some (.ref x), l1, l2, l3, l4] [] m Q ↔ AW d 211 98 [some (.ref x), l1, l2, l3, l4] [.ref x] m Q := A_aload_n hB_X12_sum dX12_sum_97 rfl
theorem dX12_sum_98 : decode cX12_sum 98 = .ok (.iload 4, 2) := by decide +kernel
theorem tX12_sum_98 {d : Nat} {l0 l1 l2 l3 : Option Value} {v0 : Value} {x : Int32} {m : jmM} {Q : Option Value → jmM → Prop} : AW d 211 98 [l0, l1, l2, l3, some (.int x)] [v0] m Q ↔ AW d 211 100 [l0, l1, l2, l3, some (.int x)] [.int x, v0] m Q := A_iload hB_X12_sum dX12_sum_98 rfl
theorem dX12_sum_100 : decode cX12_sum 100 = .ok (.invokestatic 169, 3) := by decide +kernel
theorem tX12_sum_100 {d : Nat} {l0 l1 l2 l3 l4 : Option Value} {v1 : Value} {y0 : Value} {m : jmM} {Q : Option Value → jmM → Prop} : AW d 211 100 [l0, l1, l2, l3, l4] [y0, v1] m Q ↔ CC d 206 [y0] m (jK d 211 103 [l0, l1, l2, l3, l4] [v1] Q) := A_callS0 hB_X12_sum dX12_sum_100 hO_X12_sum fS_12_169 ⟨Nat.le_of_ble_eq_true rfl, Nat.le_of_ble_eq_true rfl⟩ rfl rfl
theorem dX12_sum_103 : decode cX12_sum 103 = .ok (.iload_n 1, 1) := by decide +kernel
theorem tX12_sum_103 {d : Nat} {l0 l2 l3 l4 : Option Value} {v0 v1 : Value} {x : Int32} {m : jmM} {Q : Option Value → jmM → Prop} : AW d 211 103 [l0, some (.int x), l2, l3, l4] [v0, v1] m Q ↔ AW d 211 104 [l0, some (.int x), l2, l3, l4] [.int x, v0, v1] m Q := A_iload_n hB_X12_sum dX12_sum_103 rfl
theorem dX12_sum_104 : decode cX12_sum 104 = .ok (.invokevirtual 193, 3) := by decide +kernel
theorem tX12_sum_104 {d : Nat} {l0 l1 l2 l3 l4 : Option Value} {y0 y1 : Value} {a : Nat} {m : jmM} {Q : Option Value → jmM → Prop} : AW d 211 104 [l0, l1, l2, l3, l4] [y0, y1, .ref a] m Q ↔ (mS m a).1 = 12 ∧ CC d 207 [.ref a, y1, y0] m (jK d 211 107 [l0, l1, l2, l3, l4] [] Q) := A_callV hB_X12_sum dX12_sum_104 hO_X12_sum fS_12_193 ⟨Nat.le_of_ble_eq_true rfl, Nat.le_of_ble_eq_true rfl⟩ rfl rfl rfl
theorem dX12_sum_107 : decode cX12_sum 107 = .ok (.aload_n 0, 1) := by decide +kernel
theorem tX12_sum_107 {d : Nat} {l1 l2 l3 l4 : Option Value} {x : Nat} {m : jmM} {Q : Option Value → jmM → Prop} : AW d 211 107 [some (.ref x), l1, l2, l3, l4] [] m Q ↔ AW d 211 108 [some (.ref x), l1, l2, l3, l4] [.ref x] m Q := A_aload_n hB_X12_sum dX12_sum_107 rfl
theorem dX12_sum_108 : decode cX12_sum 108 = .ok (.getfield 35, 3) := by decide +kernel
theorem tX12_sum_108 {d : Nat} {l0 l1 l2 l3 l4 : Option Value} {a : Nat} {m : jmM} {Q : Option Value → jmM → Prop} : AW d 211 108 [l0, l1, l2, l3, l4] [.ref a] m Q ↔ (mS m a).1 = 12 ∧ AW d 211 111 [l0, l1, l2, l3, l4] [va_rf (mR m a 17)] m Q := A_getfield (f := fun m a => va_rf (mR m a 17)) hB_X12_sum dX12_sum_108 hO_X12_sum fF_12_35 rfl
theorem dX12_sum_111 : decode cX12_sum 111 = .ok (.aload_n 0, 1) := by decide +kernel
theorem tX12_sum_111 {d : Nat} {l1 l2 l3 l4 : Option Value} {v0 : Value} {x : Nat} {m : jmM} {Q : Option Value → jmM → Prop} : AW d 211 111 [some (.ref x), l1, l2, l3, l4] [v0] m Q ↔ AW d 211 112 [some (.ref x), l1, l2, l3, l4] [.ref x, v0] m Q := A_aload_n hB_X12_sum dX12_sum_111 rfl
theorem dX12_sum_112 : decode cX12_sum 112 = .ok (.getfield 166, 3) := by decide +kernel
theorem tX12_sum_112 {d : Nat} {l0 l1 l2 l3 l4 : Option Value} {v1 : Value} {a : Nat} {m : jmM} {Q : Option Value → jmM → Prop} : AW d 211 112 [l0, l1, l2, l3, l4] [.ref a, v1] m Q ↔ (mS m a).1 = 12 ∧ AW d 211 115 [l0, l1, l2, l3, l4] [.int (mI m a 18), v1] m Q := A_getfield (f := fun m a => .int (mI m a 18)) hB_X12_sum dX12_sum_112 hO_X12_sum fF_12_166 rfl
theorem dX12_sum_115 : decode cX12_sum 115 = .ok (.iload 4, 2) := by decide +kernel
theorem tX12_sum_115 {d : Nat} {l0 l1 l2 l3 : Option Value} {v0 v1 : Value} {x : Int32} {m : jmM} {Q : Option Value → jmM → Prop} : AW d 211 115 [l0, l1, l2, l3, some (.int x)] [v0, v1] m Q ↔ AW d 211 117 [l0, l1, l2, l3, some (.int x)] [.int x, v0, v1] m Q := A_iload hB_X12_sum dX12_sum_115 rfl
theorem dX12_sum_117 : decode cX12_sum 117 = .ok (.iastore, 1) := by decide +kernel
theorem tX12_sum_117 {d : Nat} {l0 l1 l2 l3 l4 : Option Value} {x i : Int32} {a : Nat} {m : jmM} {Q : Option Value → jmM → Prop} : AW d 211 117 [l0, l1, l2, l3, l4] [.int x, .int i, .ref a] m Q ↔ ((mS m a).1 = 20 ∧ jIx i (mS m a).2) ∧ AW d 211 118 [l0, l1, l2, l3, l4] [] (cI m a (jup (mI m a) (jx i) x)) Q := A_iastore hB_X12_sum dX12_sum_117
theorem dX12_sum_118 : decode cX12_sum 118 = .ok (.aload_n 0, 1) := by decide +kernel
theorem tX12_sum_118 {d : Nat} {l1 l2 l3 l4 : Option Value} {x : Nat} {m : jmM} {Q : Option Value → jmM → Prop} : AW d 211 118 [some (.ref x), l1, l2, l3, l4] [] m Q ↔ AW d 211 119 [some (.ref x), l1, l2, l3, l4] [.ref x] m Q := A_aload_n hB_X12_sum dX12_sum_118 rfl
theorem dX12_sum_119 : decode cX12_sum 119 = .ok (.dup, 1) := by decide +kernel
theorem tX12_sum_119 {d : Nat} {l0 l1 l2 l3 l4 : Option Value} {x : Nat} {m : jmM} {Q : Option Value → jmM → Prop} : AW d 211 119 [l0, l1, l2, l3, l4] [.ref x] m Q ↔ AW d 211 120 [l0, l1, l2, l3, l4] [.ref x, .ref x] m Q := A_dup_a hB_X12_sum dX12_sum_119
theorem dX12_sum_120 : decode cX12_sum 120 = .ok (.getfield 166, 3) := by decide +kernel
theorem tX12_sum_120 {d : Nat} {l0 l1 l2 l3 l4 : Option Value} {v1 : Value} {a : Nat} {m : jmM} {Q : Option Value → jmM → Prop} : AW d 211 120 [l0, l1, l2, l3, l4] [.ref a, v1] m Q ↔ (mS m a).1 = 12 ∧ AW d 211 123 [l0, l1, l2, l3, l4] [.int (mI m a 18), v1] m Q := A_getfield (f := fun m a => .int (mI m a 18)) hB_X12_sum dX12_sum_120 hO_X12_sum fF_12_166 rfl
theorem dX12_sum_123 : decode cX12_sum 123 = .ok (.iconst 1, 1) := by decide +kernel
theorem tX12_sum_123 {d : Nat} {l0 l1 l2 l3 l4 : Option Value} {v0 v1 : Value} {m : jmM} {Q : Option Value → jmM → Prop} : AW d 211 123 [l0, l1, l2, l3, l4] [v0, v1] m Q ↔ AW d 211 124 [l0, l1, l2, l3, l4] [.int 1, v0, v1] m Q := A_iconst hB_X12_sum dX12_sum_123 (by decide)
theorem dX12_sum_124 : decode cX12_sum 124 = .ok (.iadd, 1) := by decide +kernel
theorem tX12_sum_124 {d : Nat} {l0 l1 l2 l3 l4 : Option Value} {v2 : Value} {x y : Int32} {m : jmM} {Q : Option Value → jmM → Prop} : AW d 211 124 [l0, l1, l2, l3, l4] [.int y, .int x, v2] m Q ↔ AW d 211 125 [l0, l1, l2, l3, l4] [.int (x + y), v2] m Q := A_iadd hB_X12_sum dX12_sum_124
theorem dX12_sum_125 : decode cX12_sum 125 = .ok (.putfield 166, 3) := by decide +kernel
theorem tX12_sum_125 {d : Nat} {l0 l1 l2 l3 l4 : Option Value} {x : Int32} {a : Nat} {m : jmM} {Q : Option Value → jmM → Prop} : AW d 211 125 [l0, l1, l2, l3, l4] [.int x, .ref a] m Q ↔ (mS m a).1 = 12 ∧ AW d 211 128 [l0, l1, l2, l3, l4] [] (cI m a (jup (mI m a) 18 x)) Q := A_putI hB_X12_sum dX12_sum_125 hO_X12_sum fF_12_166 rfl (fun h => Bool.noConfusion h)
theorem dX12_sum_128 : decode cX12_sum 128 = .ok (.aload_n 0, 1) := by decide +kernel
theorem tX12_sum_128 {d : Nat} {l1 l2 l3 l4 : Option Value} {x : Nat} {m : jmM} {Q : Option Value → jmM → Prop} : AW d 211 128 [some (.ref x), l1, l2, l3, l4] [] m Q ↔ AW d 211 129 [some (.ref x), l1, l2, l3, l4] [.ref x] m Q := A_aload_n hB_X12_sum dX12_sum_128 rfl
theorem dX12_sum_129 : decode cX12_sum 129 = .ok (.dup, 1) := by decide +kernel
theorem tX12_sum_129 {d : Nat} {l0 l1 l2 l3 l4 : Option Value} {x : Nat} {m : jmM} {Q : Option Value → jmM → Prop} : AW d 211 129 [l0, l1, l2, l3, l4] [.ref x] m Q ↔ AW d 211 130 [l0, l1, l2, l3, l4] [.ref x, .ref x] m Q := A_dup_a hB_X12_sum dX12_sum_129
theorem dX12_sum_130 : decode cX12_sum 130 = .ok (.getfield 111, 3) := by decide +kernel
theorem tX12_sum_130 {d : Nat} {l0 l1 l2 l3 l4 : Option Value} {v1 : Value} {a : Nat} {m : jmM} {Q : Option Value → jmM → Prop} : AW d 211 130 [l0, l1, l2, l3, l4] [.ref a, v1] m Q ↔ (mS m a).1 = 12 ∧ AW d 211 133 [l0, l1, l2, l3, l4] [.int (mI m a 11), v1] m Q := A_getfield (f := fun m a => .int (mI m a 11)) hB_X12_sum dX12_sum_130 hO_X12_sum fF_12_111 rfl
theorem dX12_sum_133 : decode cX12_sum 133 = .ok (.iconst 1, 1) := by decide +kernel
theorem tX12_sum_133 {d : Nat} {l0 l1 l2 l3 l4 : Option Value} {v0 v1 : Value} {m : jmM} {Q : Option Value → jmM → Prop} : AW d 211 133 [l0, l1, l2, l3, l4] [v0, v1] m Q ↔ AW d 211 134 [l0, l1, l2, l3, l4] [.int 1, v0, v1] m Q := A_iconst hB_X12_sum dX12_sum_133 (by decide)
theorem dX12_sum_134 : decode cX12_sum 134 = .ok (.iadd, 1) := by decide +kernel
theorem tX12_sum_134 {d : Nat} {l0 l1 l2 l3 l4 : Option Value} {v2 : Value} {x y : Int32} {m : jmM} {Q : Option Value → jmM → Prop} : AW d 211 134 [l0, l1, l2, l3, l4] [.int y, .int x, v2] m Q ↔ AW d 211 135 [l0, l1, l2, l3, l4] [.int (x + y), v2] m Q := A_iadd hB_X12_sum dX12_sum_134
theorem dX12_sum_135 : decode cX12_sum 135 = .ok (.putfield 111, 3) := by decide +kernel
theorem tX12_sum_135 {d : Nat} {l0 l1 l2 l3 l4 : Option Value} {x : Int32} {a : Nat} {m : jmM} {Q : Option Value → jmM → Prop} : AW d 211 135 [l0, l1, l2, l3, l4] [.int x, .ref a] m Q ↔ (mS m a).1 = 12 ∧ AW d 211 138 [l0, l1, l2, l3, l4] [] (cI m a (jup (mI m a) 11 x)) Q := A_putI hB_X12_sum dX12_sum_135 hO_X12_sum fF_12_111 rfl (fun h => Bool.noConfusion h)
theorem dX12_sum_138 : decode cX12_sum 138 = .ok (.goto (-131), 3) := by decide +kernel
theorem tX12_sum_138 {d : Nat} {l0 l1 l2 l3 l4 : Option Value} {m : jmM} {Q : Option Value → jmM → Prop} : AW d 211 138 [l0, l1, l2, l3, l4] [] m Q ↔ AW d 211 7 [l0, l1, l2, l3, l4] [] m Q := A_goto hB_X12_sum dX12_sum_138 (by decide)
theorem dX12_sum_141 : decode cX12_sum 141 = .ok (.aload_n 0, 1) := by decide +kernel
theorem tX12_sum_141 {d : Nat} {l1 l2 l3 l4 : Option Value} {x : Nat} {m : jmM} {Q : Option Value → jmM → Prop} : AW d 211 141 [some (.ref x), l1, l2, l3, l4] [] m Q ↔ AW d 211 142 [some (.ref x), l1, l2, l3, l4] [.ref x] m Q := A_aload_n hB_X12_sum dX12_sum_141 rfl
theorem dX12_sum_142 : decode cX12_sum 142 = .ok (.iload_n 1, 1) := by decide +kernel
theorem tX12_sum_142 {d : Nat} {l0 l2 l3 l4 : Option Value} {v0 : Value} {x : Int32} {m : jmM} {Q : Option Value → jmM → Prop} : AW d 211 142 [l0, some (.int x), l2, l3, l4] [v0] m Q ↔ AW d 211 143 [l0, some (.int x), l2, l3, l4] [.int x, v0] m Q := A_iload_n hB_X12_sum dX12_sum_142 rfl
theorem dX12_sum_143 : decode cX12_sum 143 = .ok (.invokevirtual 190, 3) := by decide +kernel
theorem tX12_sum_143 {d : Nat} {l0 l1 l2 l3 l4 : Option Value} {y0 : Value} {a : Nat} {m : jmM} {Q : Option Value → jmM → Prop} : AW d 211 143 [l0, l1, l2, l3, l4] [y0, .ref a] m Q ↔ (mS m a).1 = 12 ∧ CC d 209 [.ref a, y0] m (jK d 211 146 [l0, l1, l2, l3, l4] [] Q) := A_callV hB_X12_sum dX12_sum_143 hO_X12_sum fS_12_190 ⟨Nat.le_of_ble_eq_true rfl, Nat.le_of_ble_eq_true rfl⟩ rfl rfl rfl
theorem dX12_sum_146 : decode cX12_sum 146 = .ok (.ifCond .eq 13, 3) := by decide +kernel
theorem tX12_sum_146 {d : Nat} {l0 l1 l2 l3 l4 : Option Value} {x : Int32} {m : jmM} {Q : Option Value → jmM → Prop} : AW d 211 146 [l0, l1, l2, l3, l4] [.int x] m Q ↔ if x = 0 then AW d 211 159 [l0, l1, l2, l3, l4] [] m Q else AW d 211 149 [l0, l1, l2, l3, l4] [] m Q := A_if_eq hB_X12_sum dX12_sum_146 (by decide)
theorem dX12_sum_149 : decode cX12_sum 149 = .ok (.aload_n 0, 1) := by decide +kernel
theorem tX12_sum_149 {d : Nat} {l1 l2 l3 l4 : Option Value} {x : Nat} {m : jmM} {Q : Option Value → jmM → Prop} : AW d 211 149 [some (.ref x), l1, l2, l3, l4] [] m Q ↔ AW d 211 150 [some (.ref x), l1, l2, l3, l4] [.ref x] m Q := A_aload_n hB_X12_sum dX12_sum_149 rfl
theorem dX12_sum_150 : decode cX12_sum 150 = .ok (.iconst 0, 1) := by decide +kernel
theorem tX12_sum_150 {d : Nat} {l0 l1 l2 l3 l4 : Option Value} {v0 : Value} {m : jmM} {Q : Option Value → jmM → Prop} : AW d 211 150 [l0, l1, l2, l3, l4] [v0] m Q ↔ AW d 211 151 [l0, l1, l2, l3, l4] [.int 0, v0] m Q := A_iconst hB_X12_sum dX12_sum_150 (by decide)
theorem dX12_sum_151 : decode cX12_sum 151 = .ok (.aload_n 0, 1) := by decide +kernel
theorem tX12_sum_151 {d : Nat} {l1 l2 l3 l4 : Option Value} {v0 v1 : Value} {x : Nat} {m : jmM} {Q : Option Value → jmM → Prop} : AW d 211 151 [some (.ref x), l1, l2, l3, l4] [v0, v1] m Q ↔ AW d 211 152 [some (.ref x), l1, l2, l3, l4] [.ref x, v0, v1] m Q := A_aload_n hB_X12_sum dX12_sum_151 rfl
theorem dX12_sum_152 : decode cX12_sum 152 = .ok (.getfield 111, 3) := by decide +kernel
theorem tX12_sum_152 {d : Nat} {l0 l1 l2 l3 l4 : Option Value} {v1 v2 : Value} {a : Nat} {m : jmM} {Q : Option Value → jmM → Prop} : AW d 211 152 [l0, l1, l2, l3, l4] [.ref a, v1, v2] m Q ↔ (mS m a).1 = 12 ∧ AW d 211 155 [l0, l1, l2, l3, l4] [.int (mI m a 11), v1, v2] m Q := A_getfield (f := fun m a => .int (mI m a 11)) hB_X12_sum dX12_sum_152 hO_X12_sum fF_12_111 rfl
theorem dX12_sum_155 : decode cX12_sum 155 = .ok (.invokevirtual 132, 3) := by decide +kernel
theorem tX12_sum_155 {d : Nat} {l0 l1 l2 l3 l4 : Option Value} {y0 y1 : Value} {a : Nat} {m : jmM} {Q : Option Value → jmM → Prop} : AW d 211 155 [l0, l1, l2, l3, l4] [y0, y1, .ref a] m Q ↔ (mS m a).1 = 12 ∧ CC d 194 [.ref a, y1, y0] m (jK d 211 158 [l0, l1, l2, l3, l4] [] Q) := A_callV hB_X12_sum dX12_sum_155 hO_X12_sum fS_12_132 ⟨Nat.le_of_ble_eq_true rfl, Nat.le_of_ble_eq_true rfl⟩ rfl rfl rfl
theorem dX12_sum_158 : decode cX12_sum 158 = .ok (.ireturn, 1) := by decide +kernel
theorem tX12_sum_158 {d : Nat} {l0 l1 l2 l3 l4 : Option Value} {x : Int32} {m : jmM} {Q : Option Value → jmM → Prop} : AW d 211 158 [l0, l1, l2, l3, l4] [.int x] m Q ↔ jBool x ∧ Q (some (.int x)) m := A_zreturn hB_X12_sum dX12_sum_158 hR_X12_sum
theorem dX12_sum_159 : decode cX12_sum 159 = .ok (.aload_n 0, 1) := by decide +kernel
theorem tX12_sum_159 {d : Nat} {l1 l2 l3 l4 : Option Value} {x : Nat} {m : jmM} {Q : Option Value → jmM → Prop} : AW d 211 159 [some (.ref x), l1, l2, l3, l4] [] m Q ↔ AW d 211 160 [some (.ref x), l1, l2, l3, l4] [.ref x] m Q := A_aload_n hB_X12_sum dX12_sum_159 rfl
theorem dX12_sum_160 : decode cX12_sum 160 = .ok (.iconst 5, 1) := by decide +kernel
theorem tX12_sum_160 {d : Nat} {l0 l1 l2 l3 l4 : Option Value} {v0 : Value} {m : jmM} {Q : Option Value → jmM → Prop} : AW d 211 160 [l0, l1, l2, l3, l4] [v0] m Q ↔ AW d 211 161 [l0, l1, l2, l3, l4] [.int 5, v0] m Q := A_iconst hB_X12_sum dX12_sum_160 (by decide)
theorem dX12_sum_161 : decode cX12_sum 161 = .ok (.iload_n 1, 1) := by decide +kernel
theorem tX12_sum_161 {d : Nat} {l0 l2 l3 l4 : Option Value} {v0 v1 : Value} {x : Int32} {m : jmM} {Q : Option Value → jmM → Prop} : AW d 211 161 [l0, some (.int x), l2, l3, l4] [v0, v1] m Q ↔ AW d 211 162 [l0, some (.int x), l2, l3, l4] [.int x, v0, v1] m Q := A_iload_n hB_X12_sum dX12_sum_161 rfl
theorem dX12_sum_162 : decode cX12_sum 162 = .ok (.invokevirtual 193, 3) := by decide +kernel
theorem tX12_sum_162 {d : Nat} {l0 l1 l2 l3 l4 : Option Value} {y0 y1 : Value} {a : Nat} {m : jmM} {Q : Option Value → jmM → Prop} : AW d 211 162 [l0, l1, l2, l3, l4] [y0, y1, .ref a] m Q ↔ (mS m a).1 = 12 ∧ CC d 207 [.ref a, y1, y0] m (jK d 211 165 [l0, l1, l2, l3, l4] [] Q) := A_callV hB_X12_sum dX12_sum_162 hO_X12_sum fS_12_193 ⟨Nat.le_of_ble_eq_true rfl, Nat.le_of_ble_eq_true rfl⟩ rfl rfl rfl
theorem dX12_sum_165 : decode cX12_sum 165 = .ok (.iconst 1, 1) := by decide +kernel
theorem tX12_sum_165 {d : Nat} {l0 l1 l2 l3 l4 : Option Value} {m : jmM} {Q : Option Value → jmM → Prop} : AW d 211 165 [l0, l1, l2, l3, l4] [] m Q ↔ AW d 211 166 [l0, l1, l2, l3, l4] [.int 1] m Q := A_iconst hB_X12_sum dX12_sum_165 (by decide)
theorem dX12_sum_166 : decode cX12_sum 166 = .ok (.ireturn, 1) := by decide +kernel
theorem tX12_sum_166 {d : Nat} {l0 l1 l2 l3 l4 : Option Value} {x : Int32} {m : jmM} {Q : Option Value → jmM → Prop} : AW d 211 166 [l0, l1, l2, l3, l4] [.int x] m Q ↔ jBool x ∧ Q (some (.int x)) m := A_zreturn hB_X12_sum dX12_sum_166 hR_X12_sum
theorem hB_X12_compare : jB 212 = cX12_compare := rfl
theorem hO_X12_compare : jO 212 = 12 := rfl
theorem hR_X12_compare : jRt 212 = (some .boolean) := rfl
theorem nX12_compare (d : Nat) (x0 : Nat) (m : jmM) (Q : Option Value → jmM → Prop) : CC (d + 1) 212 [.ref x0] m Q ↔ AW d 212 0 [some (.ref x0), none, none, none, none] [] m Q := CC_body (Nat.le_of_ble_eq_true rfl)
theorem dX12_compare_0 : decode cX12_compare 0 = .ok (.aload_n 0, 1) := by decide +kernel
theorem tX12_compare_0 {d : Nat} {l1 l2 l3 l4 : Option Value} {x : Nat} {m : jmM} {Q : Option Value → jmM → Prop} : AW d 212 0 [some (.ref x), l1, l2, l3, l4] [] m Q ↔ AW d 212 1 [some (.ref x), l1, l2, l3, l4] [.ref x] m Q := A_aload_n hB_X12_compare dX12_compare_0 rfl
theorem dX12_compare_1 : decode cX12_compare 1 = .ok (.invokevirtual 203, 3) := by decide +kernel
theorem tX12_compare_1 {d : Nat} {l0 l1 l2 l3 l4 : Option Value} {a : Nat} {m : jmM} {Q : Option Value → jmM → Prop} : AW d 212 1 [l0, l1, l2, l3, l4] [.ref a] m Q ↔ (mS m a).1 = 12 ∧ CC d 211 [.ref a] m (jK d 212 4 [l0, l1, l2, l3, l4] [] Q) := A_callV hB_X12_compare dX12_compare_1 hO_X12_compare fS_12_203 ⟨Nat.le_of_ble_eq_true rfl, Nat.le_of_ble_eq_true rfl⟩ rfl rfl rfl
theorem dX12_compare_4 : decode cX12_compare 4 = .ok (.ifCond .ne 5, 3) := by decide +kernel
theorem tX12_compare_4 {d : Nat} {l0 l1 l2 l3 l4 : Option Value} {x : Int32} {m : jmM} {Q : Option Value → jmM → Prop} : AW d 212 4 [l0, l1, l2, l3, l4] [.int x] m Q ↔ if x = 0 then AW d 212 7 [l0, l1, l2, l3, l4] [] m Q else AW d 212 9 [l0, l1, l2, l3, l4] [] m Q := A_if_ne hB_X12_compare dX12_compare_4 (by decide)
theorem dX12_compare_7 : decode cX12_compare 7 = .ok (.iconst 0, 1) := by decide +kernel
theorem tX12_compare_7 {d : Nat} {l0 l1 l2 l3 l4 : Option Value} {m : jmM} {Q : Option Value → jmM → Prop} : AW d 212 7 [l0, l1, l2, l3, l4] [] m Q ↔ AW d 212 8 [l0, l1, l2, l3, l4] [.int 0] m Q := A_iconst hB_X12_compare dX12_compare_7 (by decide)
theorem dX12_compare_8 : decode cX12_compare 8 = .ok (.ireturn, 1) := by decide +kernel
theorem tX12_compare_8 {d : Nat} {l0 l1 l2 l3 l4 : Option Value} {x : Int32} {m : jmM} {Q : Option Value → jmM → Prop} : AW d 212 8 [l0, l1, l2, l3, l4] [.int x] m Q ↔ jBool x ∧ Q (some (.int x)) m := A_zreturn hB_X12_compare dX12_compare_8 hR_X12_compare
theorem dX12_compare_9 : decode cX12_compare 9 = .ok (.aload_n 0, 1) := by decide +kernel
theorem tX12_compare_9 {d : Nat} {l1 l2 l3 l4 : Option Value} {x : Nat} {m : jmM} {Q : Option Value → jmM → Prop} : AW d 212 9 [some (.ref x), l1, l2, l3, l4] [] m Q ↔ AW d 212 10 [some (.ref x), l1, l2, l3, l4] [.ref x] m Q := A_aload_n hB_X12_compare dX12_compare_9 rfl
theorem dX12_compare_10 : decode cX12_compare 10 = .ok (.invokevirtual 114, 3) := by decide +kernel
theorem tX12_compare_10 {d : Nat} {l0 l1 l2 l3 l4 : Option Value} {a : Nat} {m : jmM} {Q : Option Value → jmM → Prop} : AW d 212 10 [l0, l1, l2, l3, l4] [.ref a] m Q ↔ (mS m a).1 = 12 ∧ CC d 195 [.ref a] m (jK d 212 13 [l0, l1, l2, l3, l4] [] Q) := A_callV hB_X12_compare dX12_compare_10 hO_X12_compare fS_12_114 ⟨Nat.le_of_ble_eq_true rfl, Nat.le_of_ble_eq_true rfl⟩ rfl rfl rfl
theorem dX12_compare_13 : decode cX12_compare 13 = .ok (.istore_n 1, 1) := by decide +kernel
theorem tX12_compare_13 {d : Nat} {l0 l1 l2 l3 l4 : Option Value} {x : Int32} {m : jmM} {Q : Option Value → jmM → Prop} : AW d 212 13 [l0, l1, l2, l3, l4] [.int x] m Q ↔ AW d 212 14 [jc1 l0, some (.int x), l2, l3, l4] [] m Q := A_istore_n hB_X12_compare dX12_compare_13 (Nat.le_of_ble_eq_true rfl) rfl
theorem dX12_compare_14 : decode cX12_compare 14 = .ok (.aload_n 0, 1) := by decide +kernel
theorem tX12_compare_14 {d : Nat} {l1 l2 l3 l4 : Option Value} {x : Nat} {m : jmM} {Q : Option Value → jmM → Prop} : AW d 212 14 [some (.ref x), l1, l2, l3, l4] [] m Q ↔ AW d 212 15 [some (.ref x), l1, l2, l3, l4] [.ref x] m Q := A_aload_n hB_X12_compare dX12_compare_14 rfl
theorem dX12_compare_15 : decode cX12_compare 15 = .ok (.getfield 111, 3) := by decide +kernel
theorem tX12_compare_15 {d : Nat} {l0 l1 l2 l3 l4 : Option Value} {a : Nat} {m : jmM} {Q : Option Value → jmM → Prop} : AW d 212 15 [l0, l1, l2, l3, l4] [.ref a] m Q ↔ (mS m a).1 = 12 ∧ AW d 212 18 [l0, l1, l2, l3, l4] [.int (mI m a 11)] m Q := A_getfield (f := fun m a => .int (mI m a 11)) hB_X12_compare dX12_compare_15 hO_X12_compare fF_12_111 rfl
theorem dX12_compare_18 : decode cX12_compare 18 = .ok (.istore_n 2, 1) := by decide +kernel
theorem tX12_compare_18 {d : Nat} {l0 l1 l2 l3 l4 : Option Value} {x : Int32} {m : jmM} {Q : Option Value → jmM → Prop} : AW d 212 18 [l0, l1, l2, l3, l4] [.int x] m Q ↔ AW d 212 19 [l0, jc1 l1, some (.int x), l3, l4] [] m Q := A_istore_n hB_X12_compare dX12_compare_18 (Nat.le_of_ble_eq_true rfl) rfl
theorem dX12_compare_19 : decode cX12_compare 19 = .ok (.iload_n 1, 1) := by decide +kernel
theorem tX12_compare_19 {d : Nat} {l0 l2 l3 l4 : Option Value} {x : Int32} {m : jmM} {Q : Option Value → jmM → Prop} : AW d 212 19 [l0, some (.int x), l2, l3, l4] [] m Q ↔ AW d 212 20 [l0, some (.int x), l2, l3, l4] [.int x] m Q := A_iload_n hB_X12_compare dX12_compare_19 rfl
theorem dX12_compare_20 : decode cX12_compare 20 = .ok (.bipush 60, 2) := by decide +kernel
theorem tX12_compare_20 {d : Nat} {l0 l1 l2 l3 l4 : Option Value} {v0 : Value} {m : jmM} {Q : Option Value → jmM → Prop} : AW d 212 20 [l0, l1, l2, l3, l4] [v0] m Q ↔ AW d 212 22 [l0, l1, l2, l3, l4] [.int 60, v0] m Q := A_bipush hB_X12_compare dX12_compare_20 rfl
theorem dX12_compare_22 : decode cX12_compare 22 = .ok (.if_icmp .eq 22, 3) := by decide +kernel
theorem tX12_compare_22 {d : Nat} {l0 l1 l2 l3 l4 : Option Value} {x y : Int32} {m : jmM} {Q : Option Value → jmM → Prop} : AW d 212 22 [l0, l1, l2, l3, l4] [.int y, .int x] m Q ↔ if x = y then AW d 212 44 [l0, l1, l2, l3, l4] [] m Q else AW d 212 25 [l0, l1, l2, l3, l4] [] m Q := A_icmp_eq hB_X12_compare dX12_compare_22 (by decide)
theorem dX12_compare_25 : decode cX12_compare 25 = .ok (.iload_n 1, 1) := by decide +kernel
theorem tX12_compare_25 {d : Nat} {l0 l2 l3 l4 : Option Value} {x : Int32} {m : jmM} {Q : Option Value → jmM → Prop} : AW d 212 25 [l0, some (.int x), l2, l3, l4] [] m Q ↔ AW d 212 26 [l0, some (.int x), l2, l3, l4] [.int x] m Q := A_iload_n hB_X12_compare dX12_compare_25 rfl
theorem dX12_compare_26 : decode cX12_compare 26 = .ok (.bipush 61, 2) := by decide +kernel
theorem tX12_compare_26 {d : Nat} {l0 l1 l2 l3 l4 : Option Value} {v0 : Value} {m : jmM} {Q : Option Value → jmM → Prop} : AW d 212 26 [l0, l1, l2, l3, l4] [v0] m Q ↔ AW d 212 28 [l0, l1, l2, l3, l4] [.int 61, v0] m Q := A_bipush hB_X12_compare dX12_compare_26 rfl
theorem dX12_compare_28 : decode cX12_compare 28 = .ok (.if_icmp .eq 16, 3) := by decide +kernel
theorem tX12_compare_28 {d : Nat} {l0 l1 l2 l3 l4 : Option Value} {x y : Int32} {m : jmM} {Q : Option Value → jmM → Prop} : AW d 212 28 [l0, l1, l2, l3, l4] [.int y, .int x] m Q ↔ if x = y then AW d 212 44 [l0, l1, l2, l3, l4] [] m Q else AW d 212 31 [l0, l1, l2, l3, l4] [] m Q := A_icmp_eq hB_X12_compare dX12_compare_28 (by decide)
theorem dX12_compare_31 : decode cX12_compare 31 = .ok (.iload_n 1, 1) := by decide +kernel
theorem tX12_compare_31 {d : Nat} {l0 l2 l3 l4 : Option Value} {x : Int32} {m : jmM} {Q : Option Value → jmM → Prop} : AW d 212 31 [l0, some (.int x), l2, l3, l4] [] m Q ↔ AW d 212 32 [l0, some (.int x), l2, l3, l4] [.int x] m Q := A_iload_n hB_X12_compare dX12_compare_31 rfl
theorem dX12_compare_32 : decode cX12_compare 32 = .ok (.bipush 62, 2) := by decide +kernel
theorem tX12_compare_32 {d : Nat} {l0 l1 l2 l3 l4 : Option Value} {v0 : Value} {m : jmM} {Q : Option Value → jmM → Prop} : AW d 212 32 [l0, l1, l2, l3, l4] [v0] m Q ↔ AW d 212 34 [l0, l1, l2, l3, l4] [.int 62, v0] m Q := A_bipush hB_X12_compare dX12_compare_32 rfl
theorem dX12_compare_34 : decode cX12_compare 34 = .ok (.if_icmp .eq 10, 3) := by decide +kernel
theorem tX12_compare_34 {d : Nat} {l0 l1 l2 l3 l4 : Option Value} {x y : Int32} {m : jmM} {Q : Option Value → jmM → Prop} : AW d 212 34 [l0, l1, l2, l3, l4] [.int y, .int x] m Q ↔ if x = y then AW d 212 44 [l0, l1, l2, l3, l4] [] m Q else AW d 212 37 [l0, l1, l2, l3, l4] [] m Q := A_icmp_eq hB_X12_compare dX12_compare_34 (by decide)
theorem dX12_compare_37 : decode cX12_compare 37 = .ok (.aload_n 0, 1) := by decide +kernel
theorem tX12_compare_37 {d : Nat} {l1 l2 l3 l4 : Option Value} {x : Nat} {m : jmM} {Q : Option Value → jmM → Prop} : AW d 212 37 [some (.ref x), l1, l2, l3, l4] [] m Q ↔ AW d 212 38 [some (.ref x), l1, l2, l3, l4] [.ref x] m Q := A_aload_n hB_X12_compare dX12_compare_37 rfl
theorem dX12_compare_38 : decode cX12_compare 38 = .ok (.iconst 0, 1) := by decide +kernel
theorem tX12_compare_38 {d : Nat} {l0 l1 l2 l3 l4 : Option Value} {v0 : Value} {m : jmM} {Q : Option Value → jmM → Prop} : AW d 212 38 [l0, l1, l2, l3, l4] [v0] m Q ↔ AW d 212 39 [l0, l1, l2, l3, l4] [.int 0, v0] m Q := A_iconst hB_X12_compare dX12_compare_38 (by decide)
theorem dX12_compare_39 : decode cX12_compare 39 = .ok (.iload_n 2, 1) := by decide +kernel
theorem tX12_compare_39 {d : Nat} {l0 l1 l3 l4 : Option Value} {v0 v1 : Value} {x : Int32} {m : jmM} {Q : Option Value → jmM → Prop} : AW d 212 39 [l0, l1, some (.int x), l3, l4] [v0, v1] m Q ↔ AW d 212 40 [l0, l1, some (.int x), l3, l4] [.int x, v0, v1] m Q := A_iload_n hB_X12_compare dX12_compare_39 rfl
theorem dX12_compare_40 : decode cX12_compare 40 = .ok (.invokevirtual 132, 3) := by decide +kernel
theorem tX12_compare_40 {d : Nat} {l0 l1 l2 l3 l4 : Option Value} {y0 y1 : Value} {a : Nat} {m : jmM} {Q : Option Value → jmM → Prop} : AW d 212 40 [l0, l1, l2, l3, l4] [y0, y1, .ref a] m Q ↔ (mS m a).1 = 12 ∧ CC d 194 [.ref a, y1, y0] m (jK d 212 43 [l0, l1, l2, l3, l4] [] Q) := A_callV hB_X12_compare dX12_compare_40 hO_X12_compare fS_12_132 ⟨Nat.le_of_ble_eq_true rfl, Nat.le_of_ble_eq_true rfl⟩ rfl rfl rfl
theorem dX12_compare_43 : decode cX12_compare 43 = .ok (.ireturn, 1) := by decide +kernel
theorem tX12_compare_43 {d : Nat} {l0 l1 l2 l3 l4 : Option Value} {x : Int32} {m : jmM} {Q : Option Value → jmM → Prop} : AW d 212 43 [l0, l1, l2, l3, l4] [.int x] m Q ↔ jBool x ∧ Q (some (.int x)) m := A_zreturn hB_X12_compare dX12_compare_43 hR_X12_compare
theorem dX12_compare_44 : decode cX12_compare 44 = .ok (.aload_n 0, 1) := by decide +kernel
theorem tX12_compare_44 {d : Nat} {l1 l2 l3 l4 : Option Value} {x : Nat} {m : jmM} {Q : Option Value → jmM → Prop} : AW d 212 44 [some (.ref x), l1, l2, l3, l4] [] m Q ↔ AW d 212 45 [some (.ref x), l1, l2, l3, l4] [.ref x] m Q := A_aload_n hB_X12_compare dX12_compare_44 rfl
theorem dX12_compare_45 : decode cX12_compare 45 = .ok (.dup, 1) := by decide +kernel
theorem tX12_compare_45 {d : Nat} {l0 l1 l2 l3 l4 : Option Value} {x : Nat} {m : jmM} {Q : Option Value → jmM → Prop} : AW d 212 45 [l0, l1, l2, l3, l4] [.ref x] m Q ↔ AW d 212 46 [l0, l1, l2, l3, l4] [.ref x, .ref x] m Q := A_dup_a hB_X12_compare dX12_compare_45
theorem dX12_compare_46 : decode cX12_compare 46 = .ok (.getfield 111, 3) := by decide +kernel
theorem tX12_compare_46 {d : Nat} {l0 l1 l2 l3 l4 : Option Value} {v1 : Value} {a : Nat} {m : jmM} {Q : Option Value → jmM → Prop} : AW d 212 46 [l0, l1, l2, l3, l4] [.ref a, v1] m Q ↔ (mS m a).1 = 12 ∧ AW d 212 49 [l0, l1, l2, l3, l4] [.int (mI m a 11), v1] m Q := A_getfield (f := fun m a => .int (mI m a 11)) hB_X12_compare dX12_compare_46 hO_X12_compare fF_12_111 rfl
theorem dX12_compare_49 : decode cX12_compare 49 = .ok (.iconst 1, 1) := by decide +kernel
theorem tX12_compare_49 {d : Nat} {l0 l1 l2 l3 l4 : Option Value} {v0 v1 : Value} {m : jmM} {Q : Option Value → jmM → Prop} : AW d 212 49 [l0, l1, l2, l3, l4] [v0, v1] m Q ↔ AW d 212 50 [l0, l1, l2, l3, l4] [.int 1, v0, v1] m Q := A_iconst hB_X12_compare dX12_compare_49 (by decide)
theorem dX12_compare_50 : decode cX12_compare 50 = .ok (.iadd, 1) := by decide +kernel
theorem tX12_compare_50 {d : Nat} {l0 l1 l2 l3 l4 : Option Value} {v2 : Value} {x y : Int32} {m : jmM} {Q : Option Value → jmM → Prop} : AW d 212 50 [l0, l1, l2, l3, l4] [.int y, .int x, v2] m Q ↔ AW d 212 51 [l0, l1, l2, l3, l4] [.int (x + y), v2] m Q := A_iadd hB_X12_compare dX12_compare_50
theorem dX12_compare_51 : decode cX12_compare 51 = .ok (.putfield 111, 3) := by decide +kernel
theorem tX12_compare_51 {d : Nat} {l0 l1 l2 l3 l4 : Option Value} {x : Int32} {a : Nat} {m : jmM} {Q : Option Value → jmM → Prop} : AW d 212 51 [l0, l1, l2, l3, l4] [.int x, .ref a] m Q ↔ (mS m a).1 = 12 ∧ AW d 212 54 [l0, l1, l2, l3, l4] [] (cI m a (jup (mI m a) 11 x)) Q := A_putI hB_X12_compare dX12_compare_51 hO_X12_compare fF_12_111 rfl (fun h => Bool.noConfusion h)
theorem dX12_compare_54 : decode cX12_compare 54 = .ok (.iload_n 1, 1) := by decide +kernel
theorem tX12_compare_54 {d : Nat} {l0 l2 l3 l4 : Option Value} {x : Int32} {m : jmM} {Q : Option Value → jmM → Prop} : AW d 212 54 [l0, some (.int x), l2, l3, l4] [] m Q ↔ AW d 212 55 [l0, some (.int x), l2, l3, l4] [.int x] m Q := A_iload_n hB_X12_compare dX12_compare_54 rfl
theorem dX12_compare_55 : decode cX12_compare 55 = .ok (.bipush 61, 2) := by decide +kernel
theorem tX12_compare_55 {d : Nat} {l0 l1 l2 l3 l4 : Option Value} {v0 : Value} {m : jmM} {Q : Option Value → jmM → Prop} : AW d 212 55 [l0, l1, l2, l3, l4] [v0] m Q ↔ AW d 212 57 [l0, l1, l2, l3, l4] [.int 61, v0] m Q := A_bipush hB_X12_compare dX12_compare_55 rfl
theorem dX12_compare_57 : decode cX12_compare 57 = .ok (.if_icmp .eq 32, 3) := by decide +kernel
theorem tX12_compare_57 {d : Nat} {l0 l1 l2 l3 l4 : Option Value} {x y : Int32} {m : jmM} {Q : Option Value → jmM → Prop} : AW d 212 57 [l0, l1, l2, l3, l4] [.int y, .int x] m Q ↔ if x = y then AW d 212 89 [l0, l1, l2, l3, l4] [] m Q else AW d 212 60 [l0, l1, l2, l3, l4] [] m Q := A_icmp_eq hB_X12_compare dX12_compare_57 (by decide)
theorem dX12_compare_60 : decode cX12_compare 60 = .ok (.aload_n 0, 1) := by decide +kernel
theorem tX12_compare_60 {d : Nat} {l1 l2 l3 l4 : Option Value} {x : Nat} {m : jmM} {Q : Option Value → jmM → Prop} : AW d 212 60 [some (.ref x), l1, l2, l3, l4] [] m Q ↔ AW d 212 61 [some (.ref x), l1, l2, l3, l4] [.ref x] m Q := A_aload_n hB_X12_compare dX12_compare_60 rfl
theorem dX12_compare_61 : decode cX12_compare 61 = .ok (.getfield 111, 3) := by decide +kernel
theorem tX12_compare_61 {d : Nat} {l0 l1 l2 l3 l4 : Option Value} {a : Nat} {m : jmM} {Q : Option Value → jmM → Prop} : AW d 212 61 [l0, l1, l2, l3, l4] [.ref a] m Q ↔ (mS m a).1 = 12 ∧ AW d 212 64 [l0, l1, l2, l3, l4] [.int (mI m a 11)] m Q := A_getfield (f := fun m a => .int (mI m a 11)) hB_X12_compare dX12_compare_61 hO_X12_compare fF_12_111 rfl
theorem dX12_compare_64 : decode cX12_compare 64 = .ok (.aload_n 0, 1) := by decide +kernel
theorem tX12_compare_64 {d : Nat} {l1 l2 l3 l4 : Option Value} {v0 : Value} {x : Nat} {m : jmM} {Q : Option Value → jmM → Prop} : AW d 212 64 [some (.ref x), l1, l2, l3, l4] [v0] m Q ↔ AW d 212 65 [some (.ref x), l1, l2, l3, l4] [.ref x, v0] m Q := A_aload_n hB_X12_compare dX12_compare_64 rfl
theorem dX12_compare_65 : decode cX12_compare 65 = .ok (.getfield 101, 3) := by decide +kernel
theorem tX12_compare_65 {d : Nat} {l0 l1 l2 l3 l4 : Option Value} {v1 : Value} {a : Nat} {m : jmM} {Q : Option Value → jmM → Prop} : AW d 212 65 [l0, l1, l2, l3, l4] [.ref a, v1] m Q ↔ (mS m a).1 = 12 ∧ AW d 212 68 [l0, l1, l2, l3, l4] [.int (mI m a 1), v1] m Q := A_getfield (f := fun m a => .int (mI m a 1)) hB_X12_compare dX12_compare_65 hO_X12_compare fF_12_101 rfl
theorem dX12_compare_68 : decode cX12_compare 68 = .ok (.if_icmp .ge 21, 3) := by decide +kernel
theorem tX12_compare_68 {d : Nat} {l0 l1 l2 l3 l4 : Option Value} {x y : Int32} {m : jmM} {Q : Option Value → jmM → Prop} : AW d 212 68 [l0, l1, l2, l3, l4] [.int y, .int x] m Q ↔ if y ≤ x then AW d 212 89 [l0, l1, l2, l3, l4] [] m Q else AW d 212 71 [l0, l1, l2, l3, l4] [] m Q := A_icmp_ge hB_X12_compare dX12_compare_68 (by decide)
theorem dX12_compare_71 : decode cX12_compare 71 = .ok (.aload_n 0, 1) := by decide +kernel
theorem tX12_compare_71 {d : Nat} {l1 l2 l3 l4 : Option Value} {x : Nat} {m : jmM} {Q : Option Value → jmM → Prop} : AW d 212 71 [some (.ref x), l1, l2, l3, l4] [] m Q ↔ AW d 212 72 [some (.ref x), l1, l2, l3, l4] [.ref x] m Q := A_aload_n hB_X12_compare dX12_compare_71 rfl
theorem dX12_compare_72 : decode cX12_compare 72 = .ok (.getfield 7, 3) := by decide +kernel
theorem tX12_compare_72 {d : Nat} {l0 l1 l2 l3 l4 : Option Value} {a : Nat} {m : jmM} {Q : Option Value → jmM → Prop} : AW d 212 72 [l0, l1, l2, l3, l4] [.ref a] m Q ↔ (mS m a).1 = 12 ∧ AW d 212 75 [l0, l1, l2, l3, l4] [va_rf (mR m a 0)] m Q := A_getfield (f := fun m a => va_rf (mR m a 0)) hB_X12_compare dX12_compare_72 hO_X12_compare fF_12_7 rfl
theorem dX12_compare_75 : decode cX12_compare 75 = .ok (.aload_n 0, 1) := by decide +kernel
theorem tX12_compare_75 {d : Nat} {l1 l2 l3 l4 : Option Value} {v0 : Value} {x : Nat} {m : jmM} {Q : Option Value → jmM → Prop} : AW d 212 75 [some (.ref x), l1, l2, l3, l4] [v0] m Q ↔ AW d 212 76 [some (.ref x), l1, l2, l3, l4] [.ref x, v0] m Q := A_aload_n hB_X12_compare dX12_compare_75 rfl
theorem dX12_compare_76 : decode cX12_compare 76 = .ok (.getfield 111, 3) := by decide +kernel
theorem tX12_compare_76 {d : Nat} {l0 l1 l2 l3 l4 : Option Value} {v1 : Value} {a : Nat} {m : jmM} {Q : Option Value → jmM → Prop} : AW d 212 76 [l0, l1, l2, l3, l4] [.ref a, v1] m Q ↔ (mS m a).1 = 12 ∧ AW d 212 79 [l0, l1, l2, l3, l4] [.int (mI m a 11), v1] m Q := A_getfield (f := fun m a => .int (mI m a 11)) hB_X12_compare dX12_compare_76 hO_X12_compare fF_12_111 rfl
theorem dX12_compare_79 : decode cX12_compare 79 = .ok (.baload, 1) := by decide +kernel
theorem tX12_compare_79 {d : Nat} {l0 l1 l2 l3 l4 : Option Value} {i : Int32} {a : Nat} {m : jmM} {Q : Option Value → jmM → Prop} : AW d 212 79 [l0, l1, l2, l3, l4] [.int i, .ref a] m Q ↔ (((mS m a).1 = 22 ∨ (mS m a).1 = 23) ∧ jIx i (mS m a).2) ∧ AW d 212 80 [l0, l1, l2, l3, l4] [.int (mI m a (jx i))] m Q := A_baload hB_X12_compare dX12_compare_79
theorem dX12_compare_80 : decode cX12_compare 80 = .ok (.bipush 61, 2) := by decide +kernel
theorem tX12_compare_80 {d : Nat} {l0 l1 l2 l3 l4 : Option Value} {v0 : Value} {m : jmM} {Q : Option Value → jmM → Prop} : AW d 212 80 [l0, l1, l2, l3, l4] [v0] m Q ↔ AW d 212 82 [l0, l1, l2, l3, l4] [.int 61, v0] m Q := A_bipush hB_X12_compare dX12_compare_80 rfl
theorem dX12_compare_82 : decode cX12_compare 82 = .ok (.if_icmp .ne 7, 3) := by decide +kernel
theorem tX12_compare_82 {d : Nat} {l0 l1 l2 l3 l4 : Option Value} {x y : Int32} {m : jmM} {Q : Option Value → jmM → Prop} : AW d 212 82 [l0, l1, l2, l3, l4] [.int y, .int x] m Q ↔ if x = y then AW d 212 85 [l0, l1, l2, l3, l4] [] m Q else AW d 212 89 [l0, l1, l2, l3, l4] [] m Q := A_icmp_ne hB_X12_compare dX12_compare_82 (by decide)
theorem dX12_compare_85 : decode cX12_compare 85 = .ok (.iconst 1, 1) := by decide +kernel
theorem tX12_compare_85 {d : Nat} {l0 l1 l2 l3 l4 : Option Value} {m : jmM} {Q : Option Value → jmM → Prop} : AW d 212 85 [l0, l1, l2, l3, l4] [] m Q ↔ AW d 212 86 [l0, l1, l2, l3, l4] [.int 1] m Q := A_iconst hB_X12_compare dX12_compare_85 (by decide)
theorem dX12_compare_86 : decode cX12_compare 86 = .ok (.goto 4, 3) := by decide +kernel
theorem tX12_compare_86 {d : Nat} {l0 l1 l2 l3 l4 : Option Value} {v0 : Value} {m : jmM} {Q : Option Value → jmM → Prop} : AW d 212 86 [l0, l1, l2, l3, l4] [v0] m Q ↔ AW d 212 90 [l0, l1, l2, l3, l4] [v0] m Q := A_goto hB_X12_compare dX12_compare_86 (by decide)
theorem dX12_compare_89 : decode cX12_compare 89 = .ok (.iconst 0, 1) := by decide +kernel
theorem tX12_compare_89 {d : Nat} {l0 l1 l2 l3 l4 : Option Value} {m : jmM} {Q : Option Value → jmM → Prop} : AW d 212 89 [l0, l1, l2, l3, l4] [] m Q ↔ AW d 212 90 [l0, l1, l2, l3, l4] [.int 0] m Q := A_iconst hB_X12_compare dX12_compare_89 (by decide)
theorem dX12_compare_90 : decode cX12_compare 90 = .ok (.istore_n 3, 1) := by decide +kernel
theorem tX12_compare_90 {d : Nat} {l0 l1 l2 l3 l4 : Option Value} {x : Int32} {m : jmM} {Q : Option Value → jmM → Prop} : AW d 212 90 [l0, l1, l2, l3, l4] [.int x] m Q ↔ AW d 212 91 [l0, l1, jc1 l2, some (.int x), l4] [] m Q := A_istore_n hB_X12_compare dX12_compare_90 (Nat.le_of_ble_eq_true rfl) rfl
theorem dX12_compare_91 : decode cX12_compare 91 = .ok (.iload_n 3, 1) := by decide +kernel
theorem tX12_compare_91 {d : Nat} {l0 l1 l2 l4 : Option Value} {x : Int32} {m : jmM} {Q : Option Value → jmM → Prop} : AW d 212 91 [l0, l1, l2, some (.int x), l4] [] m Q ↔ AW d 212 92 [l0, l1, l2, some (.int x), l4] [.int x] m Q := A_iload_n hB_X12_compare dX12_compare_91 rfl
theorem dX12_compare_92 : decode cX12_compare 92 = .ok (.ifCond .eq 13, 3) := by decide +kernel
theorem tX12_compare_92 {d : Nat} {l0 l1 l2 l3 l4 : Option Value} {x : Int32} {m : jmM} {Q : Option Value → jmM → Prop} : AW d 212 92 [l0, l1, l2, l3, l4] [.int x] m Q ↔ if x = 0 then AW d 212 105 [l0, l1, l2, l3, l4] [] m Q else AW d 212 95 [l0, l1, l2, l3, l4] [] m Q := A_if_eq hB_X12_compare dX12_compare_92 (by decide)
theorem dX12_compare_95 : decode cX12_compare 95 = .ok (.aload_n 0, 1) := by decide +kernel
theorem tX12_compare_95 {d : Nat} {l1 l2 l3 l4 : Option Value} {x : Nat} {m : jmM} {Q : Option Value → jmM → Prop} : AW d 212 95 [some (.ref x), l1, l2, l3, l4] [] m Q ↔ AW d 212 96 [some (.ref x), l1, l2, l3, l4] [.ref x] m Q := A_aload_n hB_X12_compare dX12_compare_95 rfl
theorem dX12_compare_96 : decode cX12_compare 96 = .ok (.dup, 1) := by decide +kernel
theorem tX12_compare_96 {d : Nat} {l0 l1 l2 l3 l4 : Option Value} {x : Nat} {m : jmM} {Q : Option Value → jmM → Prop} : AW d 212 96 [l0, l1, l2, l3, l4] [.ref x] m Q ↔ AW d 212 97 [l0, l1, l2, l3, l4] [.ref x, .ref x] m Q := A_dup_a hB_X12_compare dX12_compare_96
theorem dX12_compare_97 : decode cX12_compare 97 = .ok (.getfield 111, 3) := by decide +kernel
theorem tX12_compare_97 {d : Nat} {l0 l1 l2 l3 l4 : Option Value} {v1 : Value} {a : Nat} {m : jmM} {Q : Option Value → jmM → Prop} : AW d 212 97 [l0, l1, l2, l3, l4] [.ref a, v1] m Q ↔ (mS m a).1 = 12 ∧ AW d 212 100 [l0, l1, l2, l3, l4] [.int (mI m a 11), v1] m Q := A_getfield (f := fun m a => .int (mI m a 11)) hB_X12_compare dX12_compare_97 hO_X12_compare fF_12_111 rfl
theorem dX12_compare_100 : decode cX12_compare 100 = .ok (.iconst 1, 1) := by decide +kernel
theorem tX12_compare_100 {d : Nat} {l0 l1 l2 l3 l4 : Option Value} {v0 v1 : Value} {m : jmM} {Q : Option Value → jmM → Prop} : AW d 212 100 [l0, l1, l2, l3, l4] [v0, v1] m Q ↔ AW d 212 101 [l0, l1, l2, l3, l4] [.int 1, v0, v1] m Q := A_iconst hB_X12_compare dX12_compare_100 (by decide)
theorem dX12_compare_101 : decode cX12_compare 101 = .ok (.iadd, 1) := by decide +kernel
theorem tX12_compare_101 {d : Nat} {l0 l1 l2 l3 l4 : Option Value} {v2 : Value} {x y : Int32} {m : jmM} {Q : Option Value → jmM → Prop} : AW d 212 101 [l0, l1, l2, l3, l4] [.int y, .int x, v2] m Q ↔ AW d 212 102 [l0, l1, l2, l3, l4] [.int (x + y), v2] m Q := A_iadd hB_X12_compare dX12_compare_101
theorem dX12_compare_102 : decode cX12_compare 102 = .ok (.putfield 111, 3) := by decide +kernel
theorem tX12_compare_102 {d : Nat} {l0 l1 l2 l3 l4 : Option Value} {x : Int32} {a : Nat} {m : jmM} {Q : Option Value → jmM → Prop} : AW d 212 102 [l0, l1, l2, l3, l4] [.int x, .ref a] m Q ↔ (mS m a).1 = 12 ∧ AW d 212 105 [l0, l1, l2, l3, l4] [] (cI m a (jup (mI m a) 11 x)) Q := A_putI hB_X12_compare dX12_compare_102 hO_X12_compare fF_12_111 rfl (fun h => Bool.noConfusion h)
theorem dX12_compare_105 : decode cX12_compare 105 = .ok (.aload_n 0, 1) := by decide +kernel
theorem tX12_compare_105 {d : Nat} {l1 l2 l3 l4 : Option Value} {x : Nat} {m : jmM} {Q : Option Value → jmM → Prop} : AW d 212 105 [some (.ref x), l1, l2, l3, l4] [] m Q ↔ AW d 212 106 [some (.ref x), l1, l2, l3, l4] [.ref x] m Q := A_aload_n hB_X12_compare dX12_compare_105 rfl
theorem dX12_compare_106 : decode cX12_compare 106 = .ok (.iload_n 2, 1) := by decide +kernel
theorem tX12_compare_106 {d : Nat} {l0 l1 l3 l4 : Option Value} {v0 : Value} {x : Int32} {m : jmM} {Q : Option Value → jmM → Prop} : AW d 212 106 [l0, l1, some (.int x), l3, l4] [v0] m Q ↔ AW d 212 107 [l0, l1, some (.int x), l3, l4] [.int x, v0] m Q := A_iload_n hB_X12_compare dX12_compare_106 rfl
theorem dX12_compare_107 : decode cX12_compare 107 = .ok (.invokevirtual 184, 3) := by decide +kernel
theorem tX12_compare_107 {d : Nat} {l0 l1 l2 l3 l4 : Option Value} {y0 : Value} {a : Nat} {m : jmM} {Q : Option Value → jmM → Prop} : AW d 212 107 [l0, l1, l2, l3, l4] [y0, .ref a] m Q ↔ (mS m a).1 = 12 ∧ CC d 204 [.ref a, y0] m (jK d 212 110 [l0, l1, l2, l3, l4] [] Q) := A_callV hB_X12_compare dX12_compare_107 hO_X12_compare fS_12_184 ⟨Nat.le_of_ble_eq_true rfl, Nat.le_of_ble_eq_true rfl⟩ rfl rfl rfl
theorem dX12_compare_110 : decode cX12_compare 110 = .ok (.ifCond .ne 5, 3) := by decide +kernel
theorem tX12_compare_110 {d : Nat} {l0 l1 l2 l3 l4 : Option Value} {x : Int32} {m : jmM} {Q : Option Value → jmM → Prop} : AW d 212 110 [l0, l1, l2, l3, l4] [.int x] m Q ↔ if x = 0 then AW d 212 113 [l0, l1, l2, l3, l4] [] m Q else AW d 212 115 [l0, l1, l2, l3, l4] [] m Q := A_if_ne hB_X12_compare dX12_compare_110 (by decide)
theorem dX12_compare_113 : decode cX12_compare 113 = .ok (.iconst 0, 1) := by decide +kernel
theorem tX12_compare_113 {d : Nat} {l0 l1 l2 l3 l4 : Option Value} {m : jmM} {Q : Option Value → jmM → Prop} : AW d 212 113 [l0, l1, l2, l3, l4] [] m Q ↔ AW d 212 114 [l0, l1, l2, l3, l4] [.int 0] m Q := A_iconst hB_X12_compare dX12_compare_113 (by decide)
theorem dX12_compare_114 : decode cX12_compare 114 = .ok (.ireturn, 1) := by decide +kernel
theorem tX12_compare_114 {d : Nat} {l0 l1 l2 l3 l4 : Option Value} {x : Int32} {m : jmM} {Q : Option Value → jmM → Prop} : AW d 212 114 [l0, l1, l2, l3, l4] [.int x] m Q ↔ jBool x ∧ Q (some (.int x)) m := A_zreturn hB_X12_compare dX12_compare_114 hR_X12_compare
theorem dX12_compare_115 : decode cX12_compare 115 = .ok (.iload_n 1, 1) := by decide +kernel
theorem tX12_compare_115 {d : Nat} {l0 l2 l3 l4 : Option Value} {x : Int32} {m : jmM} {Q : Option Value → jmM → Prop} : AW d 212 115 [l0, some (.int x), l2, l3, l4] [] m Q ↔ AW d 212 116 [l0, some (.int x), l2, l3, l4] [.int x] m Q := A_iload_n hB_X12_compare dX12_compare_115 rfl
theorem dX12_compare_116 : decode cX12_compare 116 = .ok (.bipush 60, 2) := by decide +kernel
theorem tX12_compare_116 {d : Nat} {l0 l1 l2 l3 l4 : Option Value} {v0 : Value} {m : jmM} {Q : Option Value → jmM → Prop} : AW d 212 116 [l0, l1, l2, l3, l4] [v0] m Q ↔ AW d 212 118 [l0, l1, l2, l3, l4] [.int 60, v0] m Q := A_bipush hB_X12_compare dX12_compare_116 rfl
theorem dX12_compare_118 : decode cX12_compare 118 = .ok (.if_icmp .ne 15, 3) := by decide +kernel
theorem tX12_compare_118 {d : Nat} {l0 l1 l2 l3 l4 : Option Value} {x y : Int32} {m : jmM} {Q : Option Value → jmM → Prop} : AW d 212 118 [l0, l1, l2, l3, l4] [.int y, .int x] m Q ↔ if x = y then AW d 212 121 [l0, l1, l2, l3, l4] [] m Q else AW d 212 133 [l0, l1, l2, l3, l4] [] m Q := A_icmp_ne hB_X12_compare dX12_compare_118 (by decide)
theorem dX12_compare_121 : decode cX12_compare 121 = .ok (.iload_n 3, 1) := by decide +kernel
theorem tX12_compare_121 {d : Nat} {l0 l1 l2 l4 : Option Value} {x : Int32} {m : jmM} {Q : Option Value → jmM → Prop} : AW d 212 121 [l0, l1, l2, some (.int x), l4] [] m Q ↔ AW d 212 122 [l0, l1, l2, some (.int x), l4] [.int x] m Q := A_iload_n hB_X12_compare dX12_compare_121 rfl
theorem dX12_compare_122 : decode cX12_compare 122 = .ok (.ifCond .eq 7, 3) := by decide +kernel
theorem tX12_compare_122 {d : Nat} {l0 l1 l2 l3 l4 : Option Value} {x : Int32} {m : jmM} {Q : Option Value → jmM → Prop} : AW d 212 122 [l0, l1, l2, l3, l4] [.int x] m Q ↔ if x = 0 then AW d 212 129 [l0, l1, l2, l3, l4] [] m Q else AW d 212 125 [l0, l1, l2, l3, l4] [] m Q := A_if_eq hB_X12_compare dX12_compare_122 (by decide)
theorem dX12_compare_125 : decode cX12_compare 125 = .ok (.iconst 1, 1) := by decide +kernel
theorem tX12_compare_125 {d : Nat} {l0 l1 l2 l3 l4 : Option Value} {m : jmM} {Q : Option Value → jmM → Prop} : AW d 212 125 [l0, l1, l2, l3, l4] [] m Q ↔ AW d 212 126 [l0, l1, l2, l3, l4] [.int 1] m Q := A_iconst hB_X12_compare dX12_compare_125 (by decide)
theorem dX12_compare_126 : decode cX12_compare 126 = .ok (.goto 26, 3) := by decide +kernel
theorem tX12_compare_126 {d : Nat} {l0 l1 l2 l3 l4 : Option Value} {v0 : Value} {m : jmM} {Q : Option Value → jmM → Prop} : AW d 212 126 [l0, l1, l2, l3, l4] [v0] m Q ↔ AW d 212 152 [l0, l1, l2, l3, l4] [v0] m Q := A_goto hB_X12_compare dX12_compare_126 (by decide)
theorem dX12_compare_129 : decode cX12_compare 129 = .ok (.iconst 0, 1) := by decide +kernel
theorem tX12_compare_129 {d : Nat} {l0 l1 l2 l3 l4 : Option Value} {m : jmM} {Q : Option Value → jmM → Prop} : AW d 212 129 [l0, l1, l2, l3, l4] [] m Q ↔ AW d 212 130 [l0, l1, l2, l3, l4] [.int 0] m Q := A_iconst hB_X12_compare dX12_compare_129 (by decide)
theorem dX12_compare_130 : decode cX12_compare 130 = .ok (.goto 22, 3) := by decide +kernel
theorem tX12_compare_130 {d : Nat} {l0 l1 l2 l3 l4 : Option Value} {v0 : Value} {m : jmM} {Q : Option Value → jmM → Prop} : AW d 212 130 [l0, l1, l2, l3, l4] [v0] m Q ↔ AW d 212 152 [l0, l1, l2, l3, l4] [v0] m Q := A_goto hB_X12_compare dX12_compare_130 (by decide)
theorem dX12_compare_133 : decode cX12_compare 133 = .ok (.iload_n 1, 1) := by decide +kernel
theorem tX12_compare_133 {d : Nat} {l0 l2 l3 l4 : Option Value} {x : Int32} {m : jmM} {Q : Option Value → jmM → Prop} : AW d 212 133 [l0, some (.int x), l2, l3, l4] [] m Q ↔ AW d 212 134 [l0, some (.int x), l2, l3, l4] [.int x] m Q := A_iload_n hB_X12_compare dX12_compare_133 rfl
theorem dX12_compare_134 : decode cX12_compare 134 = .ok (.bipush 61, 2) := by decide +kernel
theorem tX12_compare_134 {d : Nat} {l0 l1 l2 l3 l4 : Option Value} {v0 : Value} {m : jmM} {Q : Option Value → jmM → Prop} : AW d 212 134 [l0, l1, l2, l3, l4] [v0] m Q ↔ AW d 212 136 [l0, l1, l2, l3, l4] [.int 61, v0] m Q := A_bipush hB_X12_compare dX12_compare_134 rfl
theorem dX12_compare_136 : decode cX12_compare 136 = .ok (.if_icmp .ne 7, 3) := by decide +kernel
theorem tX12_compare_136 {d : Nat} {l0 l1 l2 l3 l4 : Option Value} {x y : Int32} {m : jmM} {Q : Option Value → jmM → Prop} : AW d 212 136 [l0, l1, l2, l3, l4] [.int y, .int x] m Q ↔ if x = y then AW d 212 139 [l0, l1, l2, l3, l4] [] m Q else AW d 212 143 [l0, l1, l2, l3, l4] [] m Q := A_icmp_ne hB_X12_compare dX12_compare_136 (by decide)
theorem dX12_compare_139 : decode cX12_compare 139 = .ok (.iconst 2, 1) := by decide +kernel
theorem tX12_compare_139 {d : Nat} {l0 l1 l2 l3 l4 : Option Value} {m : jmM} {Q : Option Value → jmM → Prop} : AW d 212 139 [l0, l1, l2, l3, l4] [] m Q ↔ AW d 212 140 [l0, l1, l2, l3, l4] [.int 2] m Q := A_iconst hB_X12_compare dX12_compare_139 (by decide)
theorem dX12_compare_140 : decode cX12_compare 140 = .ok (.goto 12, 3) := by decide +kernel
theorem tX12_compare_140 {d : Nat} {l0 l1 l2 l3 l4 : Option Value} {v0 : Value} {m : jmM} {Q : Option Value → jmM → Prop} : AW d 212 140 [l0, l1, l2, l3, l4] [v0] m Q ↔ AW d 212 152 [l0, l1, l2, l3, l4] [v0] m Q := A_goto hB_X12_compare dX12_compare_140 (by decide)
theorem dX12_compare_143 : decode cX12_compare 143 = .ok (.iload_n 3, 1) := by decide +kernel
theorem tX12_compare_143 {d : Nat} {l0 l1 l2 l4 : Option Value} {x : Int32} {m : jmM} {Q : Option Value → jmM → Prop} : AW d 212 143 [l0, l1, l2, some (.int x), l4] [] m Q ↔ AW d 212 144 [l0, l1, l2, some (.int x), l4] [.int x] m Q := A_iload_n hB_X12_compare dX12_compare_143 rfl
theorem dX12_compare_144 : decode cX12_compare 144 = .ok (.ifCond .eq 7, 3) := by decide +kernel
theorem tX12_compare_144 {d : Nat} {l0 l1 l2 l3 l4 : Option Value} {x : Int32} {m : jmM} {Q : Option Value → jmM → Prop} : AW d 212 144 [l0, l1, l2, l3, l4] [.int x] m Q ↔ if x = 0 then AW d 212 151 [l0, l1, l2, l3, l4] [] m Q else AW d 212 147 [l0, l1, l2, l3, l4] [] m Q := A_if_eq hB_X12_compare dX12_compare_144 (by decide)
theorem dX12_compare_147 : decode cX12_compare 147 = .ok (.iconst 3, 1) := by decide +kernel
theorem tX12_compare_147 {d : Nat} {l0 l1 l2 l3 l4 : Option Value} {m : jmM} {Q : Option Value → jmM → Prop} : AW d 212 147 [l0, l1, l2, l3, l4] [] m Q ↔ AW d 212 148 [l0, l1, l2, l3, l4] [.int 3] m Q := A_iconst hB_X12_compare dX12_compare_147 (by decide)
theorem dX12_compare_148 : decode cX12_compare 148 = .ok (.goto 4, 3) := by decide +kernel
theorem tX12_compare_148 {d : Nat} {l0 l1 l2 l3 l4 : Option Value} {v0 : Value} {m : jmM} {Q : Option Value → jmM → Prop} : AW d 212 148 [l0, l1, l2, l3, l4] [v0] m Q ↔ AW d 212 152 [l0, l1, l2, l3, l4] [v0] m Q := A_goto hB_X12_compare dX12_compare_148 (by decide)
theorem dX12_compare_151 : decode cX12_compare 151 = .ok (.iconst 4, 1) := by decide +kernel
theorem tX12_compare_151 {d : Nat} {l0 l1 l2 l3 l4 : Option Value} {m : jmM} {Q : Option Value → jmM → Prop} : AW d 212 151 [l0, l1, l2, l3, l4] [] m Q ↔ AW d 212 152 [l0, l1, l2, l3, l4] [.int 4] m Q := A_iconst hB_X12_compare dX12_compare_151 (by decide)
theorem dX12_compare_152 : decode cX12_compare 152 = .ok (.istore 4, 2) := by decide +kernel
theorem tX12_compare_152 {d : Nat} {l0 l1 l2 l3 l4 : Option Value} {x : Int32} {m : jmM} {Q : Option Value → jmM → Prop} : AW d 212 152 [l0, l1, l2, l3, l4] [.int x] m Q ↔ AW d 212 154 [l0, l1, l2, jc1 l3, some (.int x)] [] m Q := A_istore hB_X12_compare dX12_compare_152 (Nat.le_of_ble_eq_true rfl) rfl
theorem dX12_compare_154 : decode cX12_compare 154 = .ok (.aload_n 0, 1) := by decide +kernel
theorem tX12_compare_154 {d : Nat} {l1 l2 l3 l4 : Option Value} {x : Nat} {m : jmM} {Q : Option Value → jmM → Prop} : AW d 212 154 [some (.ref x), l1, l2, l3, l4] [] m Q ↔ AW d 212 155 [some (.ref x), l1, l2, l3, l4] [.ref x] m Q := A_aload_n hB_X12_compare dX12_compare_154 rfl
theorem dX12_compare_155 : decode cX12_compare 155 = .ok (.invokevirtual 203, 3) := by decide +kernel
theorem tX12_compare_155 {d : Nat} {l0 l1 l2 l3 l4 : Option Value} {a : Nat} {m : jmM} {Q : Option Value → jmM → Prop} : AW d 212 155 [l0, l1, l2, l3, l4] [.ref a] m Q ↔ (mS m a).1 = 12 ∧ CC d 211 [.ref a] m (jK d 212 158 [l0, l1, l2, l3, l4] [] Q) := A_callV hB_X12_compare dX12_compare_155 hO_X12_compare fS_12_203 ⟨Nat.le_of_ble_eq_true rfl, Nat.le_of_ble_eq_true rfl⟩ rfl rfl rfl
theorem dX12_compare_158 : decode cX12_compare 158 = .ok (.ifCond .ne 5, 3) := by decide +kernel
theorem tX12_compare_158 {d : Nat} {l0 l1 l2 l3 l4 : Option Value} {x : Int32} {m : jmM} {Q : Option Value → jmM → Prop} : AW d 212 158 [l0, l1, l2, l3, l4] [.int x] m Q ↔ if x = 0 then AW d 212 161 [l0, l1, l2, l3, l4] [] m Q else AW d 212 163 [l0, l1, l2, l3, l4] [] m Q := A_if_ne hB_X12_compare dX12_compare_158 (by decide)
theorem dX12_compare_161 : decode cX12_compare 161 = .ok (.iconst 0, 1) := by decide +kernel
theorem tX12_compare_161 {d : Nat} {l0 l1 l2 l3 l4 : Option Value} {m : jmM} {Q : Option Value → jmM → Prop} : AW d 212 161 [l0, l1, l2, l3, l4] [] m Q ↔ AW d 212 162 [l0, l1, l2, l3, l4] [.int 0] m Q := A_iconst hB_X12_compare dX12_compare_161 (by decide)
theorem dX12_compare_162 : decode cX12_compare 162 = .ok (.ireturn, 1) := by decide +kernel
theorem tX12_compare_162 {d : Nat} {l0 l1 l2 l3 l4 : Option Value} {x : Int32} {m : jmM} {Q : Option Value → jmM → Prop} : AW d 212 162 [l0, l1, l2, l3, l4] [.int x] m Q ↔ jBool x ∧ Q (some (.int x)) m := A_zreturn hB_X12_compare dX12_compare_162 hR_X12_compare
theorem dX12_compare_163 : decode cX12_compare 163 = .ok (.aload_n 0, 1) := by decide +kernel
theorem tX12_compare_163 {d : Nat} {l1 l2 l3 l4 : Option Value} {x : Nat} {m : jmM} {Q : Option Value → jmM → Prop} : AW d 212 163 [some (.ref x), l1, l2, l3, l4] [] m Q ↔ AW d 212 164 [some (.ref x), l1, l2, l3, l4] [.ref x] m Q := A_aload_n hB_X12_compare dX12_compare_163 rfl
theorem dX12_compare_164 : decode cX12_compare 164 = .ok (.bipush 6, 2) := by decide +kernel
theorem tX12_compare_164 {d : Nat} {l0 l1 l2 l3 l4 : Option Value} {v0 : Value} {m : jmM} {Q : Option Value → jmM → Prop} : AW d 212 164 [l0, l1, l2, l3, l4] [v0] m Q ↔ AW d 212 166 [l0, l1, l2, l3, l4] [.int 6, v0] m Q := A_bipush hB_X12_compare dX12_compare_164 rfl
theorem dX12_compare_166 : decode cX12_compare 166 = .ok (.iload 4, 2) := by decide +kernel
theorem tX12_compare_166 {d : Nat} {l0 l1 l2 l3 : Option Value} {v0 v1 : Value} {x : Int32} {m : jmM} {Q : Option Value → jmM → Prop} : AW d 212 166 [l0, l1, l2, l3, some (.int x)] [v0, v1] m Q ↔ AW d 212 168 [l0, l1, l2, l3, some (.int x)] [.int x, v0, v1] m Q := A_iload hB_X12_compare dX12_compare_166 rfl
theorem dX12_compare_168 : decode cX12_compare 168 = .ok (.iadd, 1) := by decide +kernel
theorem tX12_compare_168 {d : Nat} {l0 l1 l2 l3 l4 : Option Value} {v2 : Value} {x y : Int32} {m : jmM} {Q : Option Value → jmM → Prop} : AW d 212 168 [l0, l1, l2, l3, l4] [.int y, .int x, v2] m Q ↔ AW d 212 169 [l0, l1, l2, l3, l4] [.int (x + y), v2] m Q := A_iadd hB_X12_compare dX12_compare_168
theorem dX12_compare_169 : decode cX12_compare 169 = .ok (.iconst 0, 1) := by decide +kernel
theorem tX12_compare_169 {d : Nat} {l0 l1 l2 l3 l4 : Option Value} {v0 v1 : Value} {m : jmM} {Q : Option Value → jmM → Prop} : AW d 212 169 [l0, l1, l2, l3, l4] [v0, v1] m Q ↔ AW d 212 170 [l0, l1, l2, l3, l4] [.int 0, v0, v1] m Q := A_iconst hB_X12_compare dX12_compare_169 (by decide)
theorem dX12_compare_170 : decode cX12_compare 170 = .ok (.invokevirtual 173, 3) := by decide +kernel
theorem tX12_compare_170 {d : Nat} {l0 l1 l2 l3 l4 : Option Value} {y0 y1 : Value} {a : Nat} {m : jmM} {Q : Option Value → jmM → Prop} : AW d 212 170 [l0, l1, l2, l3, l4] [y0, y1, .ref a] m Q ↔ (mS m a).1 = 12 ∧ CC d 203 [.ref a, y1, y0] m (jK d 212 173 [l0, l1, l2, l3, l4] [] Q) := A_callV hB_X12_compare dX12_compare_170 hO_X12_compare fS_12_173 ⟨Nat.le_of_ble_eq_true rfl, Nat.le_of_ble_eq_true rfl⟩ rfl rfl rfl
theorem dX12_compare_173 : decode cX12_compare 173 = .ok (.iconst 1, 1) := by decide +kernel
theorem tX12_compare_173 {d : Nat} {l0 l1 l2 l3 l4 : Option Value} {m : jmM} {Q : Option Value → jmM → Prop} : AW d 212 173 [l0, l1, l2, l3, l4] [] m Q ↔ AW d 212 174 [l0, l1, l2, l3, l4] [.int 1] m Q := A_iconst hB_X12_compare dX12_compare_173 (by decide)
theorem dX12_compare_174 : decode cX12_compare 174 = .ok (.ireturn, 1) := by decide +kernel
theorem tX12_compare_174 {d : Nat} {l0 l1 l2 l3 l4 : Option Value} {x : Int32} {m : jmM} {Q : Option Value → jmM → Prop} : AW d 212 174 [l0, l1, l2, l3, l4] [.int x] m Q ↔ jBool x ∧ Q (some (.int x)) m := A_zreturn hB_X12_compare dX12_compare_174 hR_X12_compare
theorem hB_X12_fact : jB 213 = cX12_fact := rfl
theorem hO_X12_fact : jO 213 = 12 := rfl
theorem hR_X12_fact : jRt 213 = (some .boolean) := rfl
theorem nX12_fact (d : Nat) (x0 : Nat) (m : jmM) (Q : Option Value → jmM → Prop) : CC (d + 1) 213 [.ref x0] m Q ↔ AW d 213 0 [some (.ref x0), none, none] [] m Q := CC_body (Nat.le_of_ble_eq_true rfl)
theorem dX12_fact_0 : decode cX12_fact 0 = .ok (.iconst 1, 1) := by decide +kernel
theorem tX12_fact_0 {d : Nat} {l0 l1 l2 : Option Value} {m : jmM} {Q : Option Value → jmM → Prop} : AW d 213 0 [l0, l1, l2] [] m Q ↔ AW d 213 1 [l0, l1, l2] [.int 1] m Q := A_iconst hB_X12_fact dX12_fact_0 (by decide)
theorem dX12_fact_1 : decode cX12_fact 1 = .ok (.istore_n 1, 1) := by decide +kernel
theorem tX12_fact_1 {d : Nat} {l0 l1 l2 : Option Value} {x : Int32} {m : jmM} {Q : Option Value → jmM → Prop} : AW d 213 1 [l0, l1, l2] [.int x] m Q ↔ AW d 213 2 [jc1 l0, some (.int x), l2] [] m Q := A_istore_n hB_X12_fact dX12_fact_1 (Nat.le_of_ble_eq_true rfl) rfl
theorem dX12_fact_2 : decode cX12_fact 2 = .ok (.iload_n 1, 1) := by decide +kernel
theorem tX12_fact_2 {d : Nat} {l0 l2 : Option Value} {x : Int32} {m : jmM} {Q : Option Value → jmM → Prop} : AW d 213 2 [l0, some (.int x), l2] [] m Q ↔ AW d 213 3 [l0, some (.int x), l2] [.int x] m Q := A_iload_n hB_X12_fact dX12_fact_2 rfl
theorem dX12_fact_3 : decode cX12_fact 3 = .ok (.ifCond .eq 72, 3) := by decide +kernel
theorem tX12_fact_3 {d : Nat} {l0 l1 l2 : Option Value} {x : Int32} {m : jmM} {Q : Option Value → jmM → Prop} : AW d 213 3 [l0, l1, l2] [.int x] m Q ↔ if x = 0 then AW d 213 75 [l0, l1, l2] [] m Q else AW d 213 6 [l0, l1, l2] [] m Q := A_if_eq hB_X12_fact dX12_fact_3 (by decide)
theorem dX12_fact_6 : decode cX12_fact 6 = .ok (.iconst 0, 1) := by decide +kernel
theorem tX12_fact_6 {d : Nat} {l0 l1 l2 : Option Value} {m : jmM} {Q : Option Value → jmM → Prop} : AW d 213 6 [l0, l1, l2] [] m Q ↔ AW d 213 7 [l0, l1, l2] [.int 0] m Q := A_iconst hB_X12_fact dX12_fact_6 (by decide)
theorem dX12_fact_7 : decode cX12_fact 7 = .ok (.istore_n 1, 1) := by decide +kernel
theorem tX12_fact_7 {d : Nat} {l0 l1 l2 : Option Value} {x : Int32} {m : jmM} {Q : Option Value → jmM → Prop} : AW d 213 7 [l0, l1, l2] [.int x] m Q ↔ AW d 213 8 [jc1 l0, some (.int x), l2] [] m Q := A_istore_n hB_X12_fact dX12_fact_7 (Nat.le_of_ble_eq_true rfl) rfl
theorem dX12_fact_8 : decode cX12_fact 8 = .ok (.aload_n 0, 1) := by decide +kernel
theorem tX12_fact_8 {d : Nat} {l1 l2 : Option Value} {x : Nat} {m : jmM} {Q : Option Value → jmM → Prop} : AW d 213 8 [some (.ref x), l1, l2] [] m Q ↔ AW d 213 9 [some (.ref x), l1, l2] [.ref x] m Q := A_aload_n hB_X12_fact dX12_fact_8 rfl
theorem dX12_fact_9 : decode cX12_fact 9 = .ok (.invokevirtual 114, 3) := by decide +kernel
theorem tX12_fact_9 {d : Nat} {l0 l1 l2 : Option Value} {a : Nat} {m : jmM} {Q : Option Value → jmM → Prop} : AW d 213 9 [l0, l1, l2] [.ref a] m Q ↔ (mS m a).1 = 12 ∧ CC d 195 [.ref a] m (jK d 213 12 [l0, l1, l2] [] Q) := A_callV hB_X12_fact dX12_fact_9 hO_X12_fact fS_12_114 ⟨Nat.le_of_ble_eq_true rfl, Nat.le_of_ble_eq_true rfl⟩ rfl rfl rfl
theorem dX12_fact_12 : decode cX12_fact 12 = .ok (.istore_n 2, 1) := by decide +kernel
theorem tX12_fact_12 {d : Nat} {l0 l1 l2 : Option Value} {x : Int32} {m : jmM} {Q : Option Value → jmM → Prop} : AW d 213 12 [l0, l1, l2] [.int x] m Q ↔ AW d 213 13 [l0, jc1 l1, some (.int x)] [] m Q := A_istore_n hB_X12_fact dX12_fact_12 (Nat.le_of_ble_eq_true rfl) rfl
theorem dX12_fact_13 : decode cX12_fact 13 = .ok (.aload_n 0, 1) := by decide +kernel
theorem tX12_fact_13 {d : Nat} {l1 l2 : Option Value} {x : Nat} {m : jmM} {Q : Option Value → jmM → Prop} : AW d 213 13 [some (.ref x), l1, l2] [] m Q ↔ AW d 213 14 [some (.ref x), l1, l2] [.ref x] m Q := A_aload_n hB_X12_fact dX12_fact_13 rfl
theorem dX12_fact_14 : decode cX12_fact 14 = .ok (.ldc2_w 206, 3) := by decide +kernel
theorem tX12_fact_14 {d : Nat} {l0 l1 l2 : Option Value} {v0 : Value} {m : jmM} {Q : Option Value → jmM → Prop} : AW d 213 14 [l0, l1, l2] [v0] m Q ↔ AW d 213 17 [l0, l1, l2] [.long 7237492, v0] m Q := A_ldc2_w hB_X12_fact dX12_fact_14 hO_X12_fact fL2_12_206
theorem dX12_fact_17 : decode cX12_fact 17 = .ok (.invokevirtual 122, 3) := by decide +kernel
theorem tX12_fact_17 {d : Nat} {l0 l1 l2 : Option Value} {y0 : Value} {a : Nat} {m : jmM} {Q : Option Value → jmM → Prop} : AW d 213 17 [l0, l1, l2] [y0, .ref a] m Q ↔ (mS m a).1 = 12 ∧ CC d 198 [.ref a, y0] m (jK d 213 20 [l0, l1, l2] [] Q) := A_callV hB_X12_fact dX12_fact_17 hO_X12_fact fS_12_122 ⟨Nat.le_of_ble_eq_true rfl, Nat.le_of_ble_eq_true rfl⟩ rfl rfl rfl
theorem dX12_fact_20 : decode cX12_fact 20 = .ok (.ifCond .eq 23, 3) := by decide +kernel
theorem tX12_fact_20 {d : Nat} {l0 l1 l2 : Option Value} {x : Int32} {m : jmM} {Q : Option Value → jmM → Prop} : AW d 213 20 [l0, l1, l2] [.int x] m Q ↔ if x = 0 then AW d 213 43 [l0, l1, l2] [] m Q else AW d 213 23 [l0, l1, l2] [] m Q := A_if_eq hB_X12_fact dX12_fact_20 (by decide)
theorem dX12_fact_23 : decode cX12_fact 23 = .ok (.aload_n 0, 1) := by decide +kernel
theorem tX12_fact_23 {d : Nat} {l1 l2 : Option Value} {x : Nat} {m : jmM} {Q : Option Value → jmM → Prop} : AW d 213 23 [some (.ref x), l1, l2] [] m Q ↔ AW d 213 24 [some (.ref x), l1, l2] [.ref x] m Q := A_aload_n hB_X12_fact dX12_fact_23 rfl
theorem dX12_fact_24 : decode cX12_fact 24 = .ok (.bipush 11, 2) := by decide +kernel
theorem tX12_fact_24 {d : Nat} {l0 l1 l2 : Option Value} {v0 : Value} {m : jmM} {Q : Option Value → jmM → Prop} : AW d 213 24 [l0, l1, l2] [v0] m Q ↔ AW d 213 26 [l0, l1, l2] [.int 11, v0] m Q := A_bipush hB_X12_fact dX12_fact_24 rfl
theorem dX12_fact_26 : decode cX12_fact 26 = .ok (.invokevirtual 177, 3) := by decide +kernel
theorem tX12_fact_26 {d : Nat} {l0 l1 l2 : Option Value} {y0 : Value} {a : Nat} {m : jmM} {Q : Option Value → jmM → Prop} : AW d 213 26 [l0, l1, l2] [y0, .ref a] m Q ↔ (mS m a).1 = 12 ∧ CC d 205 [.ref a, y0] m (jK d 213 29 [l0, l1, l2] [] Q) := A_callV hB_X12_fact dX12_fact_26 hO_X12_fact fS_12_177 ⟨Nat.le_of_ble_eq_true rfl, Nat.le_of_ble_eq_true rfl⟩ rfl rfl rfl
theorem dX12_fact_29 : decode cX12_fact 29 = .ok (.ifCond .ne 5, 3) := by decide +kernel
theorem tX12_fact_29 {d : Nat} {l0 l1 l2 : Option Value} {x : Int32} {m : jmM} {Q : Option Value → jmM → Prop} : AW d 213 29 [l0, l1, l2] [.int x] m Q ↔ if x = 0 then AW d 213 32 [l0, l1, l2] [] m Q else AW d 213 34 [l0, l1, l2] [] m Q := A_if_ne hB_X12_fact dX12_fact_29 (by decide)
theorem dX12_fact_32 : decode cX12_fact 32 = .ok (.iconst 0, 1) := by decide +kernel
theorem tX12_fact_32 {d : Nat} {l0 l1 l2 : Option Value} {m : jmM} {Q : Option Value → jmM → Prop} : AW d 213 32 [l0, l1, l2] [] m Q ↔ AW d 213 33 [l0, l1, l2] [.int 0] m Q := A_iconst hB_X12_fact dX12_fact_32 (by decide)
theorem dX12_fact_33 : decode cX12_fact 33 = .ok (.ireturn, 1) := by decide +kernel
theorem tX12_fact_33 {d : Nat} {l0 l1 l2 : Option Value} {x : Int32} {m : jmM} {Q : Option Value → jmM → Prop} : AW d 213 33 [l0, l1, l2] [.int x] m Q ↔ jBool x ∧ Q (some (.int x)) m := A_zreturn hB_X12_fact dX12_fact_33 hR_X12_fact
theorem dX12_fact_34 : decode cX12_fact 34 = .ok (.aload_n 0, 1) := by decide +kernel
theorem tX12_fact_34 {d : Nat} {l1 l2 : Option Value} {x : Nat} {m : jmM} {Q : Option Value → jmM → Prop} : AW d 213 34 [some (.ref x), l1, l2] [] m Q ↔ AW d 213 35 [some (.ref x), l1, l2] [.ref x] m Q := A_aload_n hB_X12_fact dX12_fact_34 rfl
theorem dX12_fact_35 : decode cX12_fact 35 = .ok (.invokevirtual 126, 3) := by decide +kernel
theorem tX12_fact_35 {d : Nat} {l0 l1 l2 : Option Value} {a : Nat} {m : jmM} {Q : Option Value → jmM → Prop} : AW d 213 35 [l0, l1, l2] [.ref a] m Q ↔ (mS m a).1 = 12 ∧ CC d 199 [.ref a] m (jK d 213 38 [l0, l1, l2] [] Q) := A_callV hB_X12_fact dX12_fact_35 hO_X12_fact fS_12_126 ⟨Nat.le_of_ble_eq_true rfl, Nat.le_of_ble_eq_true rfl⟩ rfl rfl rfl
theorem dX12_fact_38 : decode cX12_fact 38 = .ok (.iconst 1, 1) := by decide +kernel
theorem tX12_fact_38 {d : Nat} {l0 l1 l2 : Option Value} {m : jmM} {Q : Option Value → jmM → Prop} : AW d 213 38 [l0, l1, l2] [] m Q ↔ AW d 213 39 [l0, l1, l2] [.int 1] m Q := A_iconst hB_X12_fact dX12_fact_38 (by decide)
theorem dX12_fact_39 : decode cX12_fact 39 = .ok (.istore_n 1, 1) := by decide +kernel
theorem tX12_fact_39 {d : Nat} {l0 l1 l2 : Option Value} {x : Int32} {m : jmM} {Q : Option Value → jmM → Prop} : AW d 213 39 [l0, l1, l2] [.int x] m Q ↔ AW d 213 40 [jc1 l0, some (.int x), l2] [] m Q := A_istore_n hB_X12_fact dX12_fact_39 (Nat.le_of_ble_eq_true rfl) rfl
theorem dX12_fact_40 : decode cX12_fact 40 = .ok (.goto 32, 3) := by decide +kernel
theorem tX12_fact_40 {d : Nat} {l0 l1 l2 : Option Value} {m : jmM} {Q : Option Value → jmM → Prop} : AW d 213 40 [l0, l1, l2] [] m Q ↔ AW d 213 72 [l0, l1, l2] [] m Q := A_goto hB_X12_fact dX12_fact_40 (by decide)
theorem dX12_fact_43 : decode cX12_fact 43 = .ok (.iload_n 2, 1) := by decide +kernel
theorem tX12_fact_43 {d : Nat} {l0 l1 : Option Value} {x : Int32} {m : jmM} {Q : Option Value → jmM → Prop} : AW d 213 43 [l0, l1, some (.int x)] [] m Q ↔ AW d 213 44 [l0, l1, some (.int x)] [.int x] m Q := A_iload_n hB_X12_fact dX12_fact_43 rfl
theorem dX12_fact_44 : decode cX12_fact 44 = .ok (.bipush 91, 2) := by decide +kernel
theorem tX12_fact_44 {d : Nat} {l0 l1 l2 : Option Value} {v0 : Value} {m : jmM} {Q : Option Value → jmM → Prop} : AW d 213 44 [l0, l1, l2] [v0] m Q ↔ AW d 213 46 [l0, l1, l2] [.int 91, v0] m Q := A_bipush hB_X12_fact dX12_fact_44 rfl
theorem dX12_fact_46 : decode cX12_fact 46 = .ok (.if_icmp .ne 26, 3) := by decide +kernel
theorem tX12_fact_46 {d : Nat} {l0 l1 l2 : Option Value} {x y : Int32} {m : jmM} {Q : Option Value → jmM → Prop} : AW d 213 46 [l0, l1, l2] [.int y, .int x] m Q ↔ if x = y then AW d 213 49 [l0, l1, l2] [] m Q else AW d 213 72 [l0, l1, l2] [] m Q := A_icmp_ne hB_X12_fact dX12_fact_46 (by decide)
theorem dX12_fact_49 : decode cX12_fact 49 = .ok (.aload_n 0, 1) := by decide +kernel
theorem tX12_fact_49 {d : Nat} {l1 l2 : Option Value} {x : Nat} {m : jmM} {Q : Option Value → jmM → Prop} : AW d 213 49 [some (.ref x), l1, l2] [] m Q ↔ AW d 213 50 [some (.ref x), l1, l2] [.ref x] m Q := A_aload_n hB_X12_fact dX12_fact_49 rfl
theorem dX12_fact_50 : decode cX12_fact 50 = .ok (.bipush 91, 2) := by decide +kernel
theorem tX12_fact_50 {d : Nat} {l0 l1 l2 : Option Value} {v0 : Value} {m : jmM} {Q : Option Value → jmM → Prop} : AW d 213 50 [l0, l1, l2] [v0] m Q ↔ AW d 213 52 [l0, l1, l2] [.int 91, v0] m Q := A_bipush hB_X12_fact dX12_fact_50 rfl
theorem dX12_fact_52 : decode cX12_fact 52 = .ok (.invokevirtual 177, 3) := by decide +kernel
theorem tX12_fact_52 {d : Nat} {l0 l1 l2 : Option Value} {y0 : Value} {a : Nat} {m : jmM} {Q : Option Value → jmM → Prop} : AW d 213 52 [l0, l1, l2] [y0, .ref a] m Q ↔ (mS m a).1 = 12 ∧ CC d 205 [.ref a, y0] m (jK d 213 55 [l0, l1, l2] [] Q) := A_callV hB_X12_fact dX12_fact_52 hO_X12_fact fS_12_177 ⟨Nat.le_of_ble_eq_true rfl, Nat.le_of_ble_eq_true rfl⟩ rfl rfl rfl
theorem dX12_fact_55 : decode cX12_fact 55 = .ok (.ifCond .ne 5, 3) := by decide +kernel
theorem tX12_fact_55 {d : Nat} {l0 l1 l2 : Option Value} {x : Int32} {m : jmM} {Q : Option Value → jmM → Prop} : AW d 213 55 [l0, l1, l2] [.int x] m Q ↔ if x = 0 then AW d 213 58 [l0, l1, l2] [] m Q else AW d 213 60 [l0, l1, l2] [] m Q := A_if_ne hB_X12_fact dX12_fact_55 (by decide)
theorem dX12_fact_58 : decode cX12_fact 58 = .ok (.iconst 0, 1) := by decide +kernel
theorem tX12_fact_58 {d : Nat} {l0 l1 l2 : Option Value} {m : jmM} {Q : Option Value → jmM → Prop} : AW d 213 58 [l0, l1, l2] [] m Q ↔ AW d 213 59 [l0, l1, l2] [.int 0] m Q := A_iconst hB_X12_fact dX12_fact_58 (by decide)
theorem dX12_fact_59 : decode cX12_fact 59 = .ok (.ireturn, 1) := by decide +kernel
theorem tX12_fact_59 {d : Nat} {l0 l1 l2 : Option Value} {x : Int32} {m : jmM} {Q : Option Value → jmM → Prop} : AW d 213 59 [l0, l1, l2] [.int x] m Q ↔ jBool x ∧ Q (some (.int x)) m := A_zreturn hB_X12_fact dX12_fact_59 hR_X12_fact
theorem dX12_fact_60 : decode cX12_fact 60 = .ok (.aload_n 0, 1) := by decide +kernel
theorem tX12_fact_60 {d : Nat} {l1 l2 : Option Value} {x : Nat} {m : jmM} {Q : Option Value → jmM → Prop} : AW d 213 60 [some (.ref x), l1, l2] [] m Q ↔ AW d 213 61 [some (.ref x), l1, l2] [.ref x] m Q := A_aload_n hB_X12_fact dX12_fact_60 rfl
theorem dX12_fact_61 : decode cX12_fact 61 = .ok (.dup, 1) := by decide +kernel
theorem tX12_fact_61 {d : Nat} {l0 l1 l2 : Option Value} {x : Nat} {m : jmM} {Q : Option Value → jmM → Prop} : AW d 213 61 [l0, l1, l2] [.ref x] m Q ↔ AW d 213 62 [l0, l1, l2] [.ref x, .ref x] m Q := A_dup_a hB_X12_fact dX12_fact_61
theorem dX12_fact_62 : decode cX12_fact 62 = .ok (.getfield 111, 3) := by decide +kernel
theorem tX12_fact_62 {d : Nat} {l0 l1 l2 : Option Value} {v1 : Value} {a : Nat} {m : jmM} {Q : Option Value → jmM → Prop} : AW d 213 62 [l0, l1, l2] [.ref a, v1] m Q ↔ (mS m a).1 = 12 ∧ AW d 213 65 [l0, l1, l2] [.int (mI m a 11), v1] m Q := A_getfield (f := fun m a => .int (mI m a 11)) hB_X12_fact dX12_fact_62 hO_X12_fact fF_12_111 rfl
theorem dX12_fact_65 : decode cX12_fact 65 = .ok (.iconst 1, 1) := by decide +kernel
theorem tX12_fact_65 {d : Nat} {l0 l1 l2 : Option Value} {v0 v1 : Value} {m : jmM} {Q : Option Value → jmM → Prop} : AW d 213 65 [l0, l1, l2] [v0, v1] m Q ↔ AW d 213 66 [l0, l1, l2] [.int 1, v0, v1] m Q := A_iconst hB_X12_fact dX12_fact_65 (by decide)
theorem dX12_fact_66 : decode cX12_fact 66 = .ok (.iadd, 1) := by decide +kernel
theorem tX12_fact_66 {d : Nat} {l0 l1 l2 : Option Value} {v2 : Value} {x y : Int32} {m : jmM} {Q : Option Value → jmM → Prop} : AW d 213 66 [l0, l1, l2] [.int y, .int x, v2] m Q ↔ AW d 213 67 [l0, l1, l2] [.int (x + y), v2] m Q := A_iadd hB_X12_fact dX12_fact_66
theorem dX12_fact_67 : decode cX12_fact 67 = .ok (.putfield 111, 3) := by decide +kernel
theorem tX12_fact_67 {d : Nat} {l0 l1 l2 : Option Value} {x : Int32} {a : Nat} {m : jmM} {Q : Option Value → jmM → Prop} : AW d 213 67 [l0, l1, l2] [.int x, .ref a] m Q ↔ (mS m a).1 = 12 ∧ AW d 213 70 [l0, l1, l2] [] (cI m a (jup (mI m a) 11 x)) Q := A_putI hB_X12_fact dX12_fact_67 hO_X12_fact fF_12_111 rfl (fun h => Bool.noConfusion h)
theorem dX12_fact_70 : decode cX12_fact 70 = .ok (.iconst 1, 1) := by decide +kernel
theorem tX12_fact_70 {d : Nat} {l0 l1 l2 : Option Value} {m : jmM} {Q : Option Value → jmM → Prop} : AW d 213 70 [l0, l1, l2] [] m Q ↔ AW d 213 71 [l0, l1, l2] [.int 1] m Q := A_iconst hB_X12_fact dX12_fact_70 (by decide)
theorem dX12_fact_71 : decode cX12_fact 71 = .ok (.istore_n 1, 1) := by decide +kernel
theorem tX12_fact_71 {d : Nat} {l0 l1 l2 : Option Value} {x : Int32} {m : jmM} {Q : Option Value → jmM → Prop} : AW d 213 71 [l0, l1, l2] [.int x] m Q ↔ AW d 213 72 [jc1 l0, some (.int x), l2] [] m Q := A_istore_n hB_X12_fact dX12_fact_71 (Nat.le_of_ble_eq_true rfl) rfl
theorem dX12_fact_72 : decode cX12_fact 72 = .ok (.goto (-70), 3) := by decide +kernel
theorem tX12_fact_72 {d : Nat} {l0 l1 l2 : Option Value} {m : jmM} {Q : Option Value → jmM → Prop} : AW d 213 72 [l0, l1, l2] [] m Q ↔ AW d 213 2 [l0, l1, l2] [] m Q := A_goto hB_X12_fact dX12_fact_72 (by decide)
theorem dX12_fact_75 : decode cX12_fact 75 = .ok (.aload_n 0, 1) := by decide +kernel
theorem tX12_fact_75 {d : Nat} {l1 l2 : Option Value} {x : Nat} {m : jmM} {Q : Option Value → jmM → Prop} : AW d 213 75 [some (.ref x), l1, l2] [] m Q ↔ AW d 213 76 [some (.ref x), l1, l2] [.ref x] m Q := A_aload_n hB_X12_fact dX12_fact_75 rfl
theorem dX12_fact_76 : decode cX12_fact 76 = .ok (.invokevirtual 208, 3) := by decide +kernel
theorem tX12_fact_76 {d : Nat} {l0 l1 l2 : Option Value} {a : Nat} {m : jmM} {Q : Option Value → jmM → Prop} : AW d 213 76 [l0, l1, l2] [.ref a] m Q ↔ (mS m a).1 = 12 ∧ CC d 212 [.ref a] m (jK d 213 79 [l0, l1, l2] [] Q) := A_callV hB_X12_fact dX12_fact_76 hO_X12_fact fS_12_208 ⟨Nat.le_of_ble_eq_true rfl, Nat.le_of_ble_eq_true rfl⟩ rfl rfl rfl
theorem dX12_fact_79 : decode cX12_fact 79 = .ok (.ireturn, 1) := by decide +kernel
theorem tX12_fact_79 {d : Nat} {l0 l1 l2 : Option Value} {x : Int32} {m : jmM} {Q : Option Value → jmM → Prop} : AW d 213 79 [l0, l1, l2] [.int x] m Q ↔ jBool x ∧ Q (some (.int x)) m := A_zreturn hB_X12_fact dX12_fact_79 hR_X12_fact
theorem hB_X12_hasSquare : jB 214 = cX12_hasSquare := rfl
theorem hO_X12_hasSquare : jO 214 = 12 := rfl
theorem hR_X12_hasSquare : jRt 214 = (some .boolean) := rfl
theorem nX12_hasSquare (d : Nat) (x0 : Nat) (m : jmM) (Q : Option Value → jmM → Prop) : CC (d + 1) 214 [.ref x0] m Q ↔ AW d 214 0 [some (.ref x0), none] [] m Q := CC_body (Nat.le_of_ble_eq_true rfl)
theorem dX12_hasSquare_0 : decode cX12_hasSquare 0 = .ok (.iconst 0, 1) := by decide +kernel
theorem tX12_hasSquare_0 {d : Nat} {l0 l1 : Option Value} {m : jmM} {Q : Option Value → jmM → Prop} : AW d 214 0 [l0, l1] [] m Q ↔ AW d 214 1 [l0, l1] [.int 0] m Q := A_iconst hB_X12_hasSquare dX12_hasSquare_0 (by decide)
theorem dX12_hasSquare_1 : decode cX12_hasSquare 1 = .ok (.istore_n 1, 1) := by decide +kernel
theorem tX12_hasSquare_1 {d : Nat} {l0 l1 : Option Value} {x : Int32} {m : jmM} {Q : Option Value → jmM → Prop} : AW d 214 1 [l0, l1] [.int x] m Q ↔ AW d 214 2 [jc1 l0, some (.int x)] [] m Q := A_istore_n hB_X12_hasSquare dX12_hasSquare_1 (Nat.le_of_ble_eq_true rfl) rfl
theorem dX12_hasSquare_2 : decode cX12_hasSquare 2 = .ok (.iload_n 1, 1) := by decide +kernel
theorem tX12_hasSquare_2 {d : Nat} {l0 : Option Value} {x : Int32} {m : jmM} {Q : Option Value → jmM → Prop} : AW d 214 2 [l0, some (.int x)] [] m Q ↔ AW d 214 3 [l0, some (.int x)] [.int x] m Q := A_iload_n hB_X12_hasSquare dX12_hasSquare_2 rfl
theorem dX12_hasSquare_3 : decode cX12_hasSquare 3 = .ok (.aload_n 0, 1) := by decide +kernel
theorem tX12_hasSquare_3 {d : Nat} {l1 : Option Value} {v0 : Value} {x : Nat} {m : jmM} {Q : Option Value → jmM → Prop} : AW d 214 3 [some (.ref x), l1] [v0] m Q ↔ AW d 214 4 [some (.ref x), l1] [.ref x, v0] m Q := A_aload_n hB_X12_hasSquare dX12_hasSquare_3 rfl
theorem dX12_hasSquare_4 : decode cX12_hasSquare 4 = .ok (.getfield 166, 3) := by decide +kernel
theorem tX12_hasSquare_4 {d : Nat} {l0 l1 : Option Value} {v1 : Value} {a : Nat} {m : jmM} {Q : Option Value → jmM → Prop} : AW d 214 4 [l0, l1] [.ref a, v1] m Q ↔ (mS m a).1 = 12 ∧ AW d 214 7 [l0, l1] [.int (mI m a 18), v1] m Q := A_getfield (f := fun m a => .int (mI m a 18)) hB_X12_hasSquare dX12_hasSquare_4 hO_X12_hasSquare fF_12_166 rfl
theorem dX12_hasSquare_7 : decode cX12_hasSquare 7 = .ok (.if_icmp .ge 22, 3) := by decide +kernel
theorem tX12_hasSquare_7 {d : Nat} {l0 l1 : Option Value} {x y : Int32} {m : jmM} {Q : Option Value → jmM → Prop} : AW d 214 7 [l0, l1] [.int y, .int x] m Q ↔ if y ≤ x then AW d 214 29 [l0, l1] [] m Q else AW d 214 10 [l0, l1] [] m Q := A_icmp_ge hB_X12_hasSquare dX12_hasSquare_7 (by decide)
theorem dX12_hasSquare_10 : decode cX12_hasSquare 10 = .ok (.aload_n 0, 1) := by decide +kernel
theorem tX12_hasSquare_10 {d : Nat} {l1 : Option Value} {x : Nat} {m : jmM} {Q : Option Value → jmM → Prop} : AW d 214 10 [some (.ref x), l1] [] m Q ↔ AW d 214 11 [some (.ref x), l1] [.ref x] m Q := A_aload_n hB_X12_hasSquare dX12_hasSquare_10 rfl
theorem dX12_hasSquare_11 : decode cX12_hasSquare 11 = .ok (.getfield 35, 3) := by decide +kernel
theorem tX12_hasSquare_11 {d : Nat} {l0 l1 : Option Value} {a : Nat} {m : jmM} {Q : Option Value → jmM → Prop} : AW d 214 11 [l0, l1] [.ref a] m Q ↔ (mS m a).1 = 12 ∧ AW d 214 14 [l0, l1] [va_rf (mR m a 17)] m Q := A_getfield (f := fun m a => va_rf (mR m a 17)) hB_X12_hasSquare dX12_hasSquare_11 hO_X12_hasSquare fF_12_35 rfl
theorem dX12_hasSquare_14 : decode cX12_hasSquare 14 = .ok (.iload_n 1, 1) := by decide +kernel
theorem tX12_hasSquare_14 {d : Nat} {l0 : Option Value} {v0 : Value} {x : Int32} {m : jmM} {Q : Option Value → jmM → Prop} : AW d 214 14 [l0, some (.int x)] [v0] m Q ↔ AW d 214 15 [l0, some (.int x)] [.int x, v0] m Q := A_iload_n hB_X12_hasSquare dX12_hasSquare_14 rfl
theorem dX12_hasSquare_15 : decode cX12_hasSquare 15 = .ok (.iaload, 1) := by decide +kernel
theorem tX12_hasSquare_15 {d : Nat} {l0 l1 : Option Value} {i : Int32} {a : Nat} {m : jmM} {Q : Option Value → jmM → Prop} : AW d 214 15 [l0, l1] [.int i, .ref a] m Q ↔ (((mS m a).1 = 20 ∨ a = jScr) ∧ jIx i (mS m a).2) ∧ AW d 214 16 [l0, l1] [.int (mI m a (jx i))] m Q := A_iaload hB_X12_hasSquare dX12_hasSquare_15
theorem dX12_hasSquare_16 : decode cX12_hasSquare 16 = .ok (.bipush 91, 2) := by decide +kernel
theorem tX12_hasSquare_16 {d : Nat} {l0 l1 : Option Value} {v0 : Value} {m : jmM} {Q : Option Value → jmM → Prop} : AW d 214 16 [l0, l1] [v0] m Q ↔ AW d 214 18 [l0, l1] [.int 91, v0] m Q := A_bipush hB_X12_hasSquare dX12_hasSquare_16 rfl
theorem dX12_hasSquare_18 : decode cX12_hasSquare 18 = .ok (.if_icmp .ne 5, 3) := by decide +kernel
theorem tX12_hasSquare_18 {d : Nat} {l0 l1 : Option Value} {x y : Int32} {m : jmM} {Q : Option Value → jmM → Prop} : AW d 214 18 [l0, l1] [.int y, .int x] m Q ↔ if x = y then AW d 214 21 [l0, l1] [] m Q else AW d 214 23 [l0, l1] [] m Q := A_icmp_ne hB_X12_hasSquare dX12_hasSquare_18 (by decide)
theorem dX12_hasSquare_21 : decode cX12_hasSquare 21 = .ok (.iconst 1, 1) := by decide +kernel
theorem tX12_hasSquare_21 {d : Nat} {l0 l1 : Option Value} {m : jmM} {Q : Option Value → jmM → Prop} : AW d 214 21 [l0, l1] [] m Q ↔ AW d 214 22 [l0, l1] [.int 1] m Q := A_iconst hB_X12_hasSquare dX12_hasSquare_21 (by decide)
theorem dX12_hasSquare_22 : decode cX12_hasSquare 22 = .ok (.ireturn, 1) := by decide +kernel
theorem tX12_hasSquare_22 {d : Nat} {l0 l1 : Option Value} {x : Int32} {m : jmM} {Q : Option Value → jmM → Prop} : AW d 214 22 [l0, l1] [.int x] m Q ↔ jBool x ∧ Q (some (.int x)) m := A_zreturn hB_X12_hasSquare dX12_hasSquare_22 hR_X12_hasSquare
theorem dX12_hasSquare_23 : decode cX12_hasSquare 23 = .ok (.iinc 1 1, 3) := by decide +kernel
theorem tX12_hasSquare_23 {d : Nat} {l0 : Option Value} {x : Int32} {m : jmM} {Q : Option Value → jmM → Prop} : AW d 214 23 [l0, some (.int x)] [] m Q ↔ AW d 214 26 [jc1 l0, some (.int (x + 1))] [] m Q := A_iinc hB_X12_hasSquare dX12_hasSquare_23 rfl (Nat.le_of_ble_eq_true rfl) (v := 1) (by decide) rfl
theorem dX12_hasSquare_26 : decode cX12_hasSquare 26 = .ok (.goto (-24), 3) := by decide +kernel
theorem tX12_hasSquare_26 {d : Nat} {l0 l1 : Option Value} {m : jmM} {Q : Option Value → jmM → Prop} : AW d 214 26 [l0, l1] [] m Q ↔ AW d 214 2 [l0, l1] [] m Q := A_goto hB_X12_hasSquare dX12_hasSquare_26 (by decide)
theorem dX12_hasSquare_29 : decode cX12_hasSquare 29 = .ok (.iconst 0, 1) := by decide +kernel
theorem tX12_hasSquare_29 {d : Nat} {l0 l1 : Option Value} {m : jmM} {Q : Option Value → jmM → Prop} : AW d 214 29 [l0, l1] [] m Q ↔ AW d 214 30 [l0, l1] [.int 0] m Q := A_iconst hB_X12_hasSquare dX12_hasSquare_29 (by decide)
theorem dX12_hasSquare_30 : decode cX12_hasSquare 30 = .ok (.ireturn, 1) := by decide +kernel
theorem tX12_hasSquare_30 {d : Nat} {l0 l1 : Option Value} {x : Int32} {m : jmM} {Q : Option Value → jmM → Prop} : AW d 214 30 [l0, l1] [.int x] m Q ↔ jBool x ∧ Q (some (.int x)) m := A_zreturn hB_X12_hasSquare dX12_hasSquare_30 hR_X12_hasSquare
theorem hB_X12_closesSquare : jB 215 = cX12_closesSquare := rfl
theorem hO_X12_closesSquare : jO 215 = 12 := rfl
theorem hR_X12_closesSquare : jRt 215 = none := rfl
theorem nX12_closesSquare (d : Nat) (x0 : Nat) (m : jmM) (Q : Option Value → jmM → Prop) : CC (d + 1) 215 [.ref x0] m Q ↔ AW d 215 0 [some (.ref x0)] [] m Q := CC_body (Nat.le_of_ble_eq_true rfl)
theorem dX12_closesSquare_0 : decode cX12_closesSquare 0 = .ok (.aload_n 0, 1) := by decide +kernel
theorem tX12_closesSquare_0 {d : Nat} {x : Nat} {m : jmM} {Q : Option Value → jmM → Prop} : AW d 215 0 [some (.ref x)] [] m Q ↔ AW d 215 1 [some (.ref x)] [.ref x] m Q := A_aload_n hB_X12_closesSquare dX12_closesSquare_0 rfl
theorem dX12_closesSquare_1 : decode cX12_closesSquare 1 = .ok (.iconst 3, 1) := by decide +kernel
theorem tX12_closesSquare_1 {d : Nat} {l0 : Option Value} {v0 : Value} {m : jmM} {Q : Option Value → jmM → Prop} : AW d 215 1 [l0] [v0] m Q ↔ AW d 215 2 [l0] [.int 3, v0] m Q := A_iconst hB_X12_closesSquare dX12_closesSquare_1 (by decide)
theorem dX12_closesSquare_2 : decode cX12_closesSquare 2 = .ok (.iconst 0, 1) := by decide +kernel
theorem tX12_closesSquare_2 {d : Nat} {l0 : Option Value} {v0 v1 : Value} {m : jmM} {Q : Option Value → jmM → Prop} : AW d 215 2 [l0] [v0, v1] m Q ↔ AW d 215 3 [l0] [.int 0, v0, v1] m Q := A_iconst hB_X12_closesSquare dX12_closesSquare_2 (by decide)
theorem dX12_closesSquare_3 : decode cX12_closesSquare 3 = .ok (.invokevirtual 193, 3) := by decide +kernel
theorem tX12_closesSquare_3 {d : Nat} {l0 : Option Value} {y0 y1 : Value} {a : Nat} {m : jmM} {Q : Option Value → jmM → Prop} : AW d 215 3 [l0] [y0, y1, .ref a] m Q ↔ (mS m a).1 = 12 ∧ CC d 207 [.ref a, y1, y0] m (jK d 215 6 [l0] [] Q) := A_callV hB_X12_closesSquare dX12_closesSquare_3 hO_X12_closesSquare fS_12_193 ⟨Nat.le_of_ble_eq_true rfl, Nat.le_of_ble_eq_true rfl⟩ rfl rfl rfl
theorem dX12_closesSquare_6 : decode cX12_closesSquare 6 = .ok (.aload_n 0, 1) := by decide +kernel
theorem tX12_closesSquare_6 {d : Nat} {x : Nat} {m : jmM} {Q : Option Value → jmM → Prop} : AW d 215 6 [some (.ref x)] [] m Q ↔ AW d 215 7 [some (.ref x)] [.ref x] m Q := A_aload_n hB_X12_closesSquare dX12_closesSquare_6 rfl
theorem dX12_closesSquare_7 : decode cX12_closesSquare 7 = .ok (.invokevirtual 114, 3) := by decide +kernel
theorem tX12_closesSquare_7 {d : Nat} {l0 : Option Value} {a : Nat} {m : jmM} {Q : Option Value → jmM → Prop} : AW d 215 7 [l0] [.ref a] m Q ↔ (mS m a).1 = 12 ∧ CC d 195 [.ref a] m (jK d 215 10 [l0] [] Q) := A_callV hB_X12_closesSquare dX12_closesSquare_7 hO_X12_closesSquare fS_12_114 ⟨Nat.le_of_ble_eq_true rfl, Nat.le_of_ble_eq_true rfl⟩ rfl rfl rfl
theorem dX12_closesSquare_10 : decode cX12_closesSquare 10 = .ok (.bipush 93, 2) := by decide +kernel
theorem tX12_closesSquare_10 {d : Nat} {l0 : Option Value} {v0 : Value} {m : jmM} {Q : Option Value → jmM → Prop} : AW d 215 10 [l0] [v0] m Q ↔ AW d 215 12 [l0] [.int 93, v0] m Q := A_bipush hB_X12_closesSquare dX12_closesSquare_10 rfl
theorem dX12_closesSquare_12 : decode cX12_closesSquare 12 = .ok (.if_icmp .ne 55, 3) := by decide +kernel
theorem tX12_closesSquare_12 {d : Nat} {l0 : Option Value} {x y : Int32} {m : jmM} {Q : Option Value → jmM → Prop} : AW d 215 12 [l0] [.int y, .int x] m Q ↔ if x = y then AW d 215 15 [l0] [] m Q else AW d 215 67 [l0] [] m Q := A_icmp_ne hB_X12_closesSquare dX12_closesSquare_12 (by decide)
theorem dX12_closesSquare_15 : decode cX12_closesSquare 15 = .ok (.aload_n 0, 1) := by decide +kernel
theorem tX12_closesSquare_15 {d : Nat} {x : Nat} {m : jmM} {Q : Option Value → jmM → Prop} : AW d 215 15 [some (.ref x)] [] m Q ↔ AW d 215 16 [some (.ref x)] [.ref x] m Q := A_aload_n hB_X12_closesSquare dX12_closesSquare_15 rfl
theorem dX12_closesSquare_16 : decode cX12_closesSquare 16 = .ok (.invokevirtual 211, 3) := by decide +kernel
theorem tX12_closesSquare_16 {d : Nat} {l0 : Option Value} {a : Nat} {m : jmM} {Q : Option Value → jmM → Prop} : AW d 215 16 [l0] [.ref a] m Q ↔ (mS m a).1 = 12 ∧ CC d 214 [.ref a] m (jK d 215 19 [l0] [] Q) := A_callV hB_X12_closesSquare dX12_closesSquare_16 hO_X12_closesSquare fS_12_211 ⟨Nat.le_of_ble_eq_true rfl, Nat.le_of_ble_eq_true rfl⟩ rfl rfl rfl
theorem dX12_closesSquare_19 : decode cX12_closesSquare 19 = .ok (.ifCond .eq 48, 3) := by decide +kernel
theorem tX12_closesSquare_19 {d : Nat} {l0 : Option Value} {x : Int32} {m : jmM} {Q : Option Value → jmM → Prop} : AW d 215 19 [l0] [.int x] m Q ↔ if x = 0 then AW d 215 67 [l0] [] m Q else AW d 215 22 [l0] [] m Q := A_if_eq hB_X12_closesSquare dX12_closesSquare_19 (by decide)
theorem dX12_closesSquare_22 : decode cX12_closesSquare 22 = .ok (.aload_n 0, 1) := by decide +kernel
theorem tX12_closesSquare_22 {d : Nat} {x : Nat} {m : jmM} {Q : Option Value → jmM → Prop} : AW d 215 22 [some (.ref x)] [] m Q ↔ AW d 215 23 [some (.ref x)] [.ref x] m Q := A_aload_n hB_X12_closesSquare dX12_closesSquare_22 rfl
theorem dX12_closesSquare_23 : decode cX12_closesSquare 23 = .ok (.iconst 1, 1) := by decide +kernel
theorem tX12_closesSquare_23 {d : Nat} {l0 : Option Value} {v0 : Value} {m : jmM} {Q : Option Value → jmM → Prop} : AW d 215 23 [l0] [v0] m Q ↔ AW d 215 24 [l0] [.int 1, v0] m Q := A_iconst hB_X12_closesSquare dX12_closesSquare_23 (by decide)
theorem dX12_closesSquare_24 : decode cX12_closesSquare 24 = .ok (.iconst 0, 1) := by decide +kernel
theorem tX12_closesSquare_24 {d : Nat} {l0 : Option Value} {v0 v1 : Value} {m : jmM} {Q : Option Value → jmM → Prop} : AW d 215 24 [l0] [v0, v1] m Q ↔ AW d 215 25 [l0] [.int 0, v0, v1] m Q := A_iconst hB_X12_closesSquare dX12_closesSquare_24 (by decide)
theorem dX12_closesSquare_25 : decode cX12_closesSquare 25 = .ok (.invokevirtual 193, 3) := by decide +kernel
theorem tX12_closesSquare_25 {d : Nat} {l0 : Option Value} {y0 y1 : Value} {a : Nat} {m : jmM} {Q : Option Value → jmM → Prop} : AW d 215 25 [l0] [y0, y1, .ref a] m Q ↔ (mS m a).1 = 12 ∧ CC d 207 [.ref a, y1, y0] m (jK d 215 28 [l0] [] Q) := A_callV hB_X12_closesSquare dX12_closesSquare_25 hO_X12_closesSquare fS_12_193 ⟨Nat.le_of_ble_eq_true rfl, Nat.le_of_ble_eq_true rfl⟩ rfl rfl rfl
theorem dX12_closesSquare_28 : decode cX12_closesSquare 28 = .ok (.aload_n 0, 1) := by decide +kernel
theorem tX12_closesSquare_28 {d : Nat} {x : Nat} {m : jmM} {Q : Option Value → jmM → Prop} : AW d 215 28 [some (.ref x)] [] m Q ↔ AW d 215 29 [some (.ref x)] [.ref x] m Q := A_aload_n hB_X12_closesSquare dX12_closesSquare_28 rfl
theorem dX12_closesSquare_29 : decode cX12_closesSquare 29 = .ok (.dup, 1) := by decide +kernel
theorem tX12_closesSquare_29 {d : Nat} {l0 : Option Value} {x : Nat} {m : jmM} {Q : Option Value → jmM → Prop} : AW d 215 29 [l0] [.ref x] m Q ↔ AW d 215 30 [l0] [.ref x, .ref x] m Q := A_dup_a hB_X12_closesSquare dX12_closesSquare_29
theorem dX12_closesSquare_30 : decode cX12_closesSquare 30 = .ok (.getfield 166, 3) := by decide +kernel
theorem tX12_closesSquare_30 {d : Nat} {l0 : Option Value} {v1 : Value} {a : Nat} {m : jmM} {Q : Option Value → jmM → Prop} : AW d 215 30 [l0] [.ref a, v1] m Q ↔ (mS m a).1 = 12 ∧ AW d 215 33 [l0] [.int (mI m a 18), v1] m Q := A_getfield (f := fun m a => .int (mI m a 18)) hB_X12_closesSquare dX12_closesSquare_30 hO_X12_closesSquare fF_12_166 rfl
theorem dX12_closesSquare_33 : decode cX12_closesSquare 33 = .ok (.iconst 1, 1) := by decide +kernel
theorem tX12_closesSquare_33 {d : Nat} {l0 : Option Value} {v0 v1 : Value} {m : jmM} {Q : Option Value → jmM → Prop} : AW d 215 33 [l0] [v0, v1] m Q ↔ AW d 215 34 [l0] [.int 1, v0, v1] m Q := A_iconst hB_X12_closesSquare dX12_closesSquare_33 (by decide)
theorem dX12_closesSquare_34 : decode cX12_closesSquare 34 = .ok (.isub, 1) := by decide +kernel
theorem tX12_closesSquare_34 {d : Nat} {l0 : Option Value} {v2 : Value} {x y : Int32} {m : jmM} {Q : Option Value → jmM → Prop} : AW d 215 34 [l0] [.int y, .int x, v2] m Q ↔ AW d 215 35 [l0] [.int (x - y), v2] m Q := A_isub hB_X12_closesSquare dX12_closesSquare_34
theorem dX12_closesSquare_35 : decode cX12_closesSquare 35 = .ok (.putfield 166, 3) := by decide +kernel
theorem tX12_closesSquare_35 {d : Nat} {l0 : Option Value} {x : Int32} {a : Nat} {m : jmM} {Q : Option Value → jmM → Prop} : AW d 215 35 [l0] [.int x, .ref a] m Q ↔ (mS m a).1 = 12 ∧ AW d 215 38 [l0] [] (cI m a (jup (mI m a) 18 x)) Q := A_putI hB_X12_closesSquare dX12_closesSquare_35 hO_X12_closesSquare fF_12_166 rfl (fun h => Bool.noConfusion h)
theorem dX12_closesSquare_38 : decode cX12_closesSquare 38 = .ok (.aload_n 0, 1) := by decide +kernel
theorem tX12_closesSquare_38 {d : Nat} {x : Nat} {m : jmM} {Q : Option Value → jmM → Prop} : AW d 215 38 [some (.ref x)] [] m Q ↔ AW d 215 39 [some (.ref x)] [.ref x] m Q := A_aload_n hB_X12_closesSquare dX12_closesSquare_38 rfl
theorem dX12_closesSquare_39 : decode cX12_closesSquare 39 = .ok (.dup, 1) := by decide +kernel
theorem tX12_closesSquare_39 {d : Nat} {l0 : Option Value} {x : Nat} {m : jmM} {Q : Option Value → jmM → Prop} : AW d 215 39 [l0] [.ref x] m Q ↔ AW d 215 40 [l0] [.ref x, .ref x] m Q := A_dup_a hB_X12_closesSquare dX12_closesSquare_39
theorem dX12_closesSquare_40 : decode cX12_closesSquare 40 = .ok (.getfield 163, 3) := by decide +kernel
theorem tX12_closesSquare_40 {d : Nat} {l0 : Option Value} {v1 : Value} {a : Nat} {m : jmM} {Q : Option Value → jmM → Prop} : AW d 215 40 [l0] [.ref a, v1] m Q ↔ (mS m a).1 = 12 ∧ AW d 215 43 [l0] [.int (mI m a 16), v1] m Q := A_getfield (f := fun m a => .int (mI m a 16)) hB_X12_closesSquare dX12_closesSquare_40 hO_X12_closesSquare fF_12_163 rfl
theorem dX12_closesSquare_43 : decode cX12_closesSquare 43 = .ok (.iconst 1, 1) := by decide +kernel
theorem tX12_closesSquare_43 {d : Nat} {l0 : Option Value} {v0 v1 : Value} {m : jmM} {Q : Option Value → jmM → Prop} : AW d 215 43 [l0] [v0, v1] m Q ↔ AW d 215 44 [l0] [.int 1, v0, v1] m Q := A_iconst hB_X12_closesSquare dX12_closesSquare_43 (by decide)
theorem dX12_closesSquare_44 : decode cX12_closesSquare 44 = .ok (.isub, 1) := by decide +kernel
theorem tX12_closesSquare_44 {d : Nat} {l0 : Option Value} {v2 : Value} {x y : Int32} {m : jmM} {Q : Option Value → jmM → Prop} : AW d 215 44 [l0] [.int y, .int x, v2] m Q ↔ AW d 215 45 [l0] [.int (x - y), v2] m Q := A_isub hB_X12_closesSquare dX12_closesSquare_44
theorem dX12_closesSquare_45 : decode cX12_closesSquare 45 = .ok (.putfield 163, 3) := by decide +kernel
theorem tX12_closesSquare_45 {d : Nat} {l0 : Option Value} {x : Int32} {a : Nat} {m : jmM} {Q : Option Value → jmM → Prop} : AW d 215 45 [l0] [.int x, .ref a] m Q ↔ (mS m a).1 = 12 ∧ AW d 215 48 [l0] [] (cI m a (jup (mI m a) 16 x)) Q := A_putI hB_X12_closesSquare dX12_closesSquare_45 hO_X12_closesSquare fF_12_163 rfl (fun h => Bool.noConfusion h)
theorem dX12_closesSquare_48 : decode cX12_closesSquare 48 = .ok (.aload_n 0, 1) := by decide +kernel
theorem tX12_closesSquare_48 {d : Nat} {x : Nat} {m : jmM} {Q : Option Value → jmM → Prop} : AW d 215 48 [some (.ref x)] [] m Q ↔ AW d 215 49 [some (.ref x)] [.ref x] m Q := A_aload_n hB_X12_closesSquare dX12_closesSquare_48 rfl
theorem dX12_closesSquare_49 : decode cX12_closesSquare 49 = .ok (.dup, 1) := by decide +kernel
theorem tX12_closesSquare_49 {d : Nat} {l0 : Option Value} {x : Nat} {m : jmM} {Q : Option Value → jmM → Prop} : AW d 215 49 [l0] [.ref x] m Q ↔ AW d 215 50 [l0] [.ref x, .ref x] m Q := A_dup_a hB_X12_closesSquare dX12_closesSquare_49
theorem dX12_closesSquare_50 : decode cX12_closesSquare 50 = .ok (.getfield 111, 3) := by decide +kernel
theorem tX12_closesSquare_50 {d : Nat} {l0 : Option Value} {v1 : Value} {a : Nat} {m : jmM} {Q : Option Value → jmM → Prop} : AW d 215 50 [l0] [.ref a, v1] m Q ↔ (mS m a).1 = 12 ∧ AW d 215 53 [l0] [.int (mI m a 11), v1] m Q := A_getfield (f := fun m a => .int (mI m a 11)) hB_X12_closesSquare dX12_closesSquare_50 hO_X12_closesSquare fF_12_111 rfl
theorem dX12_closesSquare_53 : decode cX12_closesSquare 53 = .ok (.iconst 1, 1) := by decide +kernel
theorem tX12_closesSquare_53 {d : Nat} {l0 : Option Value} {v0 v1 : Value} {m : jmM} {Q : Option Value → jmM → Prop} : AW d 215 53 [l0] [v0, v1] m Q ↔ AW d 215 54 [l0] [.int 1, v0, v1] m Q := A_iconst hB_X12_closesSquare dX12_closesSquare_53 (by decide)
theorem dX12_closesSquare_54 : decode cX12_closesSquare 54 = .ok (.iadd, 1) := by decide +kernel
theorem tX12_closesSquare_54 {d : Nat} {l0 : Option Value} {v2 : Value} {x y : Int32} {m : jmM} {Q : Option Value → jmM → Prop} : AW d 215 54 [l0] [.int y, .int x, v2] m Q ↔ AW d 215 55 [l0] [.int (x + y), v2] m Q := A_iadd hB_X12_closesSquare dX12_closesSquare_54
theorem dX12_closesSquare_55 : decode cX12_closesSquare 55 = .ok (.putfield 111, 3) := by decide +kernel
theorem tX12_closesSquare_55 {d : Nat} {l0 : Option Value} {x : Int32} {a : Nat} {m : jmM} {Q : Option Value → jmM → Prop} : AW d 215 55 [l0] [.int x, .ref a] m Q ↔ (mS m a).1 = 12 ∧ AW d 215 58 [l0] [] (cI m a (jup (mI m a) 11 x)) Q := A_putI hB_X12_closesSquare dX12_closesSquare_55 hO_X12_closesSquare fF_12_111 rfl (fun h => Bool.noConfusion h)
theorem dX12_closesSquare_58 : decode cX12_closesSquare 58 = .ok (.aload_n 0, 1) := by decide +kernel
theorem tX12_closesSquare_58 {d : Nat} {x : Nat} {m : jmM} {Q : Option Value → jmM → Prop} : AW d 215 58 [some (.ref x)] [] m Q ↔ AW d 215 59 [some (.ref x)] [.ref x] m Q := A_aload_n hB_X12_closesSquare dX12_closesSquare_58 rfl
theorem dX12_closesSquare_59 : decode cX12_closesSquare 59 = .ok (.iconst 3, 1) := by decide +kernel
theorem tX12_closesSquare_59 {d : Nat} {l0 : Option Value} {v0 : Value} {m : jmM} {Q : Option Value → jmM → Prop} : AW d 215 59 [l0] [v0] m Q ↔ AW d 215 60 [l0] [.int 3, v0] m Q := A_iconst hB_X12_closesSquare dX12_closesSquare_59 (by decide)
theorem dX12_closesSquare_60 : decode cX12_closesSquare 60 = .ok (.iconst 0, 1) := by decide +kernel
theorem tX12_closesSquare_60 {d : Nat} {l0 : Option Value} {v0 v1 : Value} {m : jmM} {Q : Option Value → jmM → Prop} : AW d 215 60 [l0] [v0, v1] m Q ↔ AW d 215 61 [l0] [.int 0, v0, v1] m Q := A_iconst hB_X12_closesSquare dX12_closesSquare_60 (by decide)
theorem dX12_closesSquare_61 : decode cX12_closesSquare 61 = .ok (.invokevirtual 193, 3) := by decide +kernel
theorem tX12_closesSquare_61 {d : Nat} {l0 : Option Value} {y0 y1 : Value} {a : Nat} {m : jmM} {Q : Option Value → jmM → Prop} : AW d 215 61 [l0] [y0, y1, .ref a] m Q ↔ (mS m a).1 = 12 ∧ CC d 207 [.ref a, y1, y0] m (jK d 215 64 [l0] [] Q) := A_callV hB_X12_closesSquare dX12_closesSquare_61 hO_X12_closesSquare fS_12_193 ⟨Nat.le_of_ble_eq_true rfl, Nat.le_of_ble_eq_true rfl⟩ rfl rfl rfl
theorem dX12_closesSquare_64 : decode cX12_closesSquare 64 = .ok (.goto (-58), 3) := by decide +kernel
theorem tX12_closesSquare_64 {d : Nat} {l0 : Option Value} {m : jmM} {Q : Option Value → jmM → Prop} : AW d 215 64 [l0] [] m Q ↔ AW d 215 6 [l0] [] m Q := A_goto hB_X12_closesSquare dX12_closesSquare_64 (by decide)
theorem dX12_closesSquare_67 : decode cX12_closesSquare 67 = .ok (.return_, 1) := by decide +kernel
theorem tX12_closesSquare_67 {d : Nat} {l0 : Option Value} {m : jmM} {Q : Option Value → jmM → Prop} : AW d 215 67 [l0] [] m Q ↔ Q none m := A_return hB_X12_closesSquare dX12_closesSquare_67 hR_X12_closesSquare
theorem hB_X12_test : jB 216 = cX12_test := rfl
theorem hO_X12_test : jO 216 = 12 := rfl
theorem hR_X12_test : jRt 216 = (some .boolean) := rfl
theorem nX12_test (d : Nat) (x0 : Nat) (m : jmM) (Q : Option Value → jmM → Prop) : CC (d + 1) 216 [.ref x0] m Q ↔ AW d 216 0 [some (.ref x0), none, none] [] m Q := CC_body (Nat.le_of_ble_eq_true rfl)
theorem dX12_test_0 : decode cX12_test 0 = .ok (.iconst 1, 1) := by decide +kernel
theorem tX12_test_0 {d : Nat} {l0 l1 l2 : Option Value} {m : jmM} {Q : Option Value → jmM → Prop} : AW d 216 0 [l0, l1, l2] [] m Q ↔ AW d 216 1 [l0, l1, l2] [.int 1] m Q := A_iconst hB_X12_test dX12_test_0 (by decide)
theorem dX12_test_1 : decode cX12_test 1 = .ok (.istore_n 1, 1) := by decide +kernel
theorem tX12_test_1 {d : Nat} {l0 l1 l2 : Option Value} {x : Int32} {m : jmM} {Q : Option Value → jmM → Prop} : AW d 216 1 [l0, l1, l2] [.int x] m Q ↔ AW d 216 2 [jc1 l0, some (.int x), l2] [] m Q := A_istore_n hB_X12_test dX12_test_1 (Nat.le_of_ble_eq_true rfl) rfl
theorem dX12_test_2 : decode cX12_test 2 = .ok (.iload_n 1, 1) := by decide +kernel
theorem tX12_test_2 {d : Nat} {l0 l2 : Option Value} {x : Int32} {m : jmM} {Q : Option Value → jmM → Prop} : AW d 216 2 [l0, some (.int x), l2] [] m Q ↔ AW d 216 3 [l0, some (.int x), l2] [.int x] m Q := A_iload_n hB_X12_test dX12_test_2 rfl
theorem dX12_test_3 : decode cX12_test 3 = .ok (.ifCond .eq 100, 3) := by decide +kernel
theorem tX12_test_3 {d : Nat} {l0 l1 l2 : Option Value} {x : Int32} {m : jmM} {Q : Option Value → jmM → Prop} : AW d 216 3 [l0, l1, l2] [.int x] m Q ↔ if x = 0 then AW d 216 103 [l0, l1, l2] [] m Q else AW d 216 6 [l0, l1, l2] [] m Q := A_if_eq hB_X12_test dX12_test_3 (by decide)
theorem dX12_test_6 : decode cX12_test 6 = .ok (.aload_n 0, 1) := by decide +kernel
theorem tX12_test_6 {d : Nat} {l1 l2 : Option Value} {x : Nat} {m : jmM} {Q : Option Value → jmM → Prop} : AW d 216 6 [some (.ref x), l1, l2] [] m Q ↔ AW d 216 7 [some (.ref x), l1, l2] [.ref x] m Q := A_aload_n hB_X12_test dX12_test_6 rfl
theorem dX12_test_7 : decode cX12_test 7 = .ok (.invokevirtual 214, 3) := by decide +kernel
theorem tX12_test_7 {d : Nat} {l0 l1 l2 : Option Value} {a : Nat} {m : jmM} {Q : Option Value → jmM → Prop} : AW d 216 7 [l0, l1, l2] [.ref a] m Q ↔ (mS m a).1 = 12 ∧ CC d 213 [.ref a] m (jK d 216 10 [l0, l1, l2] [] Q) := A_callV hB_X12_test dX12_test_7 hO_X12_test fS_12_214 ⟨Nat.le_of_ble_eq_true rfl, Nat.le_of_ble_eq_true rfl⟩ rfl rfl rfl
theorem dX12_test_10 : decode cX12_test 10 = .ok (.ifCond .ne 5, 3) := by decide +kernel
theorem tX12_test_10 {d : Nat} {l0 l1 l2 : Option Value} {x : Int32} {m : jmM} {Q : Option Value → jmM → Prop} : AW d 216 10 [l0, l1, l2] [.int x] m Q ↔ if x = 0 then AW d 216 13 [l0, l1, l2] [] m Q else AW d 216 15 [l0, l1, l2] [] m Q := A_if_ne hB_X12_test dX12_test_10 (by decide)
theorem dX12_test_13 : decode cX12_test 13 = .ok (.iconst 0, 1) := by decide +kernel
theorem tX12_test_13 {d : Nat} {l0 l1 l2 : Option Value} {m : jmM} {Q : Option Value → jmM → Prop} : AW d 216 13 [l0, l1, l2] [] m Q ↔ AW d 216 14 [l0, l1, l2] [.int 0] m Q := A_iconst hB_X12_test dX12_test_13 (by decide)
theorem dX12_test_14 : decode cX12_test 14 = .ok (.ireturn, 1) := by decide +kernel
theorem tX12_test_14 {d : Nat} {l0 l1 l2 : Option Value} {x : Int32} {m : jmM} {Q : Option Value → jmM → Prop} : AW d 216 14 [l0, l1, l2] [.int x] m Q ↔ jBool x ∧ Q (some (.int x)) m := A_zreturn hB_X12_test dX12_test_14 hR_X12_test
theorem dX12_test_15 : decode cX12_test 15 = .ok (.aload_n 0, 1) := by decide +kernel
theorem tX12_test_15 {d : Nat} {l1 l2 : Option Value} {x : Nat} {m : jmM} {Q : Option Value → jmM → Prop} : AW d 216 15 [some (.ref x), l1, l2] [] m Q ↔ AW d 216 16 [some (.ref x), l1, l2] [.ref x] m Q := A_aload_n hB_X12_test dX12_test_15 rfl
theorem dX12_test_16 : decode cX12_test 16 = .ok (.invokevirtual 217, 3) := by decide +kernel
theorem tX12_test_16 {d : Nat} {l0 l1 l2 : Option Value} {a : Nat} {m : jmM} {Q : Option Value → jmM → Prop} : AW d 216 16 [l0, l1, l2] [.ref a] m Q ↔ (mS m a).1 = 12 ∧ CC d 215 [.ref a] m (jK d 216 19 [l0, l1, l2] [] Q) := A_callV hB_X12_test dX12_test_16 hO_X12_test fS_12_217 ⟨Nat.le_of_ble_eq_true rfl, Nat.le_of_ble_eq_true rfl⟩ rfl rfl rfl
theorem dX12_test_19 : decode cX12_test 19 = .ok (.aload_n 0, 1) := by decide +kernel
theorem tX12_test_19 {d : Nat} {l1 l2 : Option Value} {x : Nat} {m : jmM} {Q : Option Value → jmM → Prop} : AW d 216 19 [some (.ref x), l1, l2] [] m Q ↔ AW d 216 20 [some (.ref x), l1, l2] [.ref x] m Q := A_aload_n hB_X12_test dX12_test_19 rfl
theorem dX12_test_20 : decode cX12_test 20 = .ok (.ldc2_w 220, 3) := by decide +kernel
theorem tX12_test_20 {d : Nat} {l0 l1 l2 : Option Value} {v0 : Value} {m : jmM} {Q : Option Value → jmM → Prop} : AW d 216 20 [l0, l1, l2] [v0] m Q ↔ AW d 216 23 [l0, l1, l2] [.long 6385252, v0] m Q := A_ldc2_w hB_X12_test dX12_test_20 hO_X12_test fL2_12_220
theorem dX12_test_23 : decode cX12_test 23 = .ok (.invokevirtual 122, 3) := by decide +kernel
theorem tX12_test_23 {d : Nat} {l0 l1 l2 : Option Value} {y0 : Value} {a : Nat} {m : jmM} {Q : Option Value → jmM → Prop} : AW d 216 23 [l0, l1, l2] [y0, .ref a] m Q ↔ (mS m a).1 = 12 ∧ CC d 198 [.ref a, y0] m (jK d 216 26 [l0, l1, l2] [] Q) := A_callV hB_X12_test dX12_test_23 hO_X12_test fS_12_122 ⟨Nat.le_of_ble_eq_true rfl, Nat.le_of_ble_eq_true rfl⟩ rfl rfl rfl
theorem dX12_test_26 : decode cX12_test 26 = .ok (.ifCond .ne 13, 3) := by decide +kernel
theorem tX12_test_26 {d : Nat} {l0 l1 l2 : Option Value} {x : Int32} {m : jmM} {Q : Option Value → jmM → Prop} : AW d 216 26 [l0, l1, l2] [.int x] m Q ↔ if x = 0 then AW d 216 29 [l0, l1, l2] [] m Q else AW d 216 39 [l0, l1, l2] [] m Q := A_if_ne hB_X12_test dX12_test_26 (by decide)
theorem dX12_test_29 : decode cX12_test 29 = .ok (.aload_n 0, 1) := by decide +kernel
theorem tX12_test_29 {d : Nat} {l1 l2 : Option Value} {x : Nat} {m : jmM} {Q : Option Value → jmM → Prop} : AW d 216 29 [some (.ref x), l1, l2] [] m Q ↔ AW d 216 30 [some (.ref x), l1, l2] [.ref x] m Q := A_aload_n hB_X12_test dX12_test_29 rfl
theorem dX12_test_30 : decode cX12_test 30 = .ok (.ldc2_w 222, 3) := by decide +kernel
theorem tX12_test_30 {d : Nat} {l0 l1 l2 : Option Value} {v0 : Value} {m : jmM} {Q : Option Value → jmM → Prop} : AW d 216 30 [l0, l1, l2] [v0] m Q ↔ AW d 216 33 [l0, l1, l2] [.long 28530, v0] m Q := A_ldc2_w hB_X12_test dX12_test_30 hO_X12_test fL2_12_222
theorem dX12_test_33 : decode cX12_test 33 = .ok (.invokevirtual 122, 3) := by decide +kernel
theorem tX12_test_33 {d : Nat} {l0 l1 l2 : Option Value} {y0 : Value} {a : Nat} {m : jmM} {Q : Option Value → jmM → Prop} : AW d 216 33 [l0, l1, l2] [y0, .ref a] m Q ↔ (mS m a).1 = 12 ∧ CC d 198 [.ref a, y0] m (jK d 216 36 [l0, l1, l2] [] Q) := A_callV hB_X12_test dX12_test_33 hO_X12_test fS_12_122 ⟨Nat.le_of_ble_eq_true rfl, Nat.le_of_ble_eq_true rfl⟩ rfl rfl rfl
theorem dX12_test_36 : decode cX12_test 36 = .ok (.ifCond .eq 7, 3) := by decide +kernel
theorem tX12_test_36 {d : Nat} {l0 l1 l2 : Option Value} {x : Int32} {m : jmM} {Q : Option Value → jmM → Prop} : AW d 216 36 [l0, l1, l2] [.int x] m Q ↔ if x = 0 then AW d 216 43 [l0, l1, l2] [] m Q else AW d 216 39 [l0, l1, l2] [] m Q := A_if_eq hB_X12_test dX12_test_36 (by decide)
theorem dX12_test_39 : decode cX12_test 39 = .ok (.iconst 1, 1) := by decide +kernel
theorem tX12_test_39 {d : Nat} {l0 l1 l2 : Option Value} {m : jmM} {Q : Option Value → jmM → Prop} : AW d 216 39 [l0, l1, l2] [] m Q ↔ AW d 216 40 [l0, l1, l2] [.int 1] m Q := A_iconst hB_X12_test dX12_test_39 (by decide)
theorem dX12_test_40 : decode cX12_test 40 = .ok (.goto 4, 3) := by decide +kernel
theorem tX12_test_40 {d : Nat} {l0 l1 l2 : Option Value} {v0 : Value} {m : jmM} {Q : Option Value → jmM → Prop} : AW d 216 40 [l0, l1, l2] [v0] m Q ↔ AW d 216 44 [l0, l1, l2] [v0] m Q := A_goto hB_X12_test dX12_test_40 (by decide)
theorem dX12_test_43 : decode cX12_test 43 = .ok (.iconst 0, 1) := by decide +kernel
theorem tX12_test_43 {d : Nat} {l0 l1 l2 : Option Value} {m : jmM} {Q : Option Value → jmM → Prop} : AW d 216 43 [l0, l1, l2] [] m Q ↔ AW d 216 44 [l0, l1, l2] [.int 0] m Q := A_iconst hB_X12_test dX12_test_43 (by decide)
theorem dX12_test_44 : decode cX12_test 44 = .ok (.istore_n 1, 1) := by decide +kernel
theorem tX12_test_44 {d : Nat} {l0 l1 l2 : Option Value} {x : Int32} {m : jmM} {Q : Option Value → jmM → Prop} : AW d 216 44 [l0, l1, l2] [.int x] m Q ↔ AW d 216 45 [jc1 l0, some (.int x), l2] [] m Q := A_istore_n hB_X12_test dX12_test_44 (Nat.le_of_ble_eq_true rfl) rfl
theorem dX12_test_45 : decode cX12_test 45 = .ok (.iload_n 1, 1) := by decide +kernel
theorem tX12_test_45 {d : Nat} {l0 l2 : Option Value} {x : Int32} {m : jmM} {Q : Option Value → jmM → Prop} : AW d 216 45 [l0, some (.int x), l2] [] m Q ↔ AW d 216 46 [l0, some (.int x), l2] [.int x] m Q := A_iload_n hB_X12_test dX12_test_45 rfl
theorem dX12_test_46 : decode cX12_test 46 = .ok (.ifCond .eq (-44), 3) := by decide +kernel
theorem tX12_test_46 {d : Nat} {l0 l1 l2 : Option Value} {x : Int32} {m : jmM} {Q : Option Value → jmM → Prop} : AW d 216 46 [l0, l1, l2] [.int x] m Q ↔ if x = 0 then AW d 216 2 [l0, l1, l2] [] m Q else AW d 216 49 [l0, l1, l2] [] m Q := A_if_eq hB_X12_test dX12_test_46 (by decide)
theorem dX12_test_49 : decode cX12_test 49 = .ok (.aload_n 0, 1) := by decide +kernel
theorem tX12_test_49 {d : Nat} {l1 l2 : Option Value} {x : Nat} {m : jmM} {Q : Option Value → jmM → Prop} : AW d 216 49 [some (.ref x), l1, l2] [] m Q ↔ AW d 216 50 [some (.ref x), l1, l2] [.ref x] m Q := A_aload_n hB_X12_test dX12_test_49 rfl
theorem dX12_test_50 : decode cX12_test 50 = .ok (.ldc2_w 220, 3) := by decide +kernel
theorem tX12_test_50 {d : Nat} {l0 l1 l2 : Option Value} {v0 : Value} {m : jmM} {Q : Option Value → jmM → Prop} : AW d 216 50 [l0, l1, l2] [v0] m Q ↔ AW d 216 53 [l0, l1, l2] [.long 6385252, v0] m Q := A_ldc2_w hB_X12_test dX12_test_50 hO_X12_test fL2_12_220
theorem dX12_test_53 : decode cX12_test 53 = .ok (.invokevirtual 122, 3) := by decide +kernel
theorem tX12_test_53 {d : Nat} {l0 l1 l2 : Option Value} {y0 : Value} {a : Nat} {m : jmM} {Q : Option Value → jmM → Prop} : AW d 216 53 [l0, l1, l2] [y0, .ref a] m Q ↔ (mS m a).1 = 12 ∧ CC d 198 [.ref a, y0] m (jK d 216 56 [l0, l1, l2] [] Q) := A_callV hB_X12_test dX12_test_53 hO_X12_test fS_12_122 ⟨Nat.le_of_ble_eq_true rfl, Nat.le_of_ble_eq_true rfl⟩ rfl rfl rfl
theorem dX12_test_56 : decode cX12_test 56 = .ok (.ifCond .eq 8, 3) := by decide +kernel
theorem tX12_test_56 {d : Nat} {l0 l1 l2 : Option Value} {x : Int32} {m : jmM} {Q : Option Value → jmM → Prop} : AW d 216 56 [l0, l1, l2] [.int x] m Q ↔ if x = 0 then AW d 216 64 [l0, l1, l2] [] m Q else AW d 216 59 [l0, l1, l2] [] m Q := A_if_eq hB_X12_test dX12_test_56 (by decide)
theorem dX12_test_59 : decode cX12_test 59 = .ok (.bipush 12, 2) := by decide +kernel
theorem tX12_test_59 {d : Nat} {l0 l1 l2 : Option Value} {m : jmM} {Q : Option Value → jmM → Prop} : AW d 216 59 [l0, l1, l2] [] m Q ↔ AW d 216 61 [l0, l1, l2] [.int 12] m Q := A_bipush hB_X12_test dX12_test_59 rfl
theorem dX12_test_61 : decode cX12_test 61 = .ok (.goto 5, 3) := by decide +kernel
theorem tX12_test_61 {d : Nat} {l0 l1 l2 : Option Value} {v0 : Value} {m : jmM} {Q : Option Value → jmM → Prop} : AW d 216 61 [l0, l1, l2] [v0] m Q ↔ AW d 216 66 [l0, l1, l2] [v0] m Q := A_goto hB_X12_test dX12_test_61 (by decide)
theorem dX12_test_64 : decode cX12_test 64 = .ok (.bipush 13, 2) := by decide +kernel
theorem tX12_test_64 {d : Nat} {l0 l1 l2 : Option Value} {m : jmM} {Q : Option Value → jmM → Prop} : AW d 216 64 [l0, l1, l2] [] m Q ↔ AW d 216 66 [l0, l1, l2] [.int 13] m Q := A_bipush hB_X12_test dX12_test_64 rfl
theorem dX12_test_66 : decode cX12_test 66 = .ok (.istore_n 2, 1) := by decide +kernel
theorem tX12_test_66 {d : Nat} {l0 l1 l2 : Option Value} {x : Int32} {m : jmM} {Q : Option Value → jmM → Prop} : AW d 216 66 [l0, l1, l2] [.int x] m Q ↔ AW d 216 67 [l0, jc1 l1, some (.int x)] [] m Q := A_istore_n hB_X12_test dX12_test_66 (Nat.le_of_ble_eq_true rfl) rfl
theorem dX12_test_67 : decode cX12_test 67 = .ok (.aload_n 0, 1) := by decide +kernel
theorem tX12_test_67 {d : Nat} {l1 l2 : Option Value} {x : Nat} {m : jmM} {Q : Option Value → jmM → Prop} : AW d 216 67 [some (.ref x), l1, l2] [] m Q ↔ AW d 216 68 [some (.ref x), l1, l2] [.ref x] m Q := A_aload_n hB_X12_test dX12_test_67 rfl
theorem dX12_test_68 : decode cX12_test 68 = .ok (.invokevirtual 126, 3) := by decide +kernel
theorem tX12_test_68 {d : Nat} {l0 l1 l2 : Option Value} {a : Nat} {m : jmM} {Q : Option Value → jmM → Prop} : AW d 216 68 [l0, l1, l2] [.ref a] m Q ↔ (mS m a).1 = 12 ∧ CC d 199 [.ref a] m (jK d 216 71 [l0, l1, l2] [] Q) := A_callV hB_X12_test dX12_test_68 hO_X12_test fS_12_126 ⟨Nat.le_of_ble_eq_true rfl, Nat.le_of_ble_eq_true rfl⟩ rfl rfl rfl
theorem dX12_test_71 : decode cX12_test 71 = .ok (.aload_n 0, 1) := by decide +kernel
theorem tX12_test_71 {d : Nat} {l1 l2 : Option Value} {x : Nat} {m : jmM} {Q : Option Value → jmM → Prop} : AW d 216 71 [some (.ref x), l1, l2] [] m Q ↔ AW d 216 72 [some (.ref x), l1, l2] [.ref x] m Q := A_aload_n hB_X12_test dX12_test_71 rfl
theorem dX12_test_72 : decode cX12_test 72 = .ok (.iload_n 2, 1) := by decide +kernel
theorem tX12_test_72 {d : Nat} {l0 l1 : Option Value} {v0 : Value} {x : Int32} {m : jmM} {Q : Option Value → jmM → Prop} : AW d 216 72 [l0, l1, some (.int x)] [v0] m Q ↔ AW d 216 73 [l0, l1, some (.int x)] [.int x, v0] m Q := A_iload_n hB_X12_test dX12_test_72 rfl
theorem dX12_test_73 : decode cX12_test 73 = .ok (.invokestatic 169, 3) := by decide +kernel
theorem tX12_test_73 {d : Nat} {l0 l1 l2 : Option Value} {v1 : Value} {y0 : Value} {m : jmM} {Q : Option Value → jmM → Prop} : AW d 216 73 [l0, l1, l2] [y0, v1] m Q ↔ CC d 206 [y0] m (jK d 216 76 [l0, l1, l2] [v1] Q) := A_callS0 hB_X12_test dX12_test_73 hO_X12_test fS_12_169 ⟨Nat.le_of_ble_eq_true rfl, Nat.le_of_ble_eq_true rfl⟩ rfl rfl
theorem dX12_test_76 : decode cX12_test 76 = .ok (.iconst 0, 1) := by decide +kernel
theorem tX12_test_76 {d : Nat} {l0 l1 l2 : Option Value} {v0 v1 : Value} {m : jmM} {Q : Option Value → jmM → Prop} : AW d 216 76 [l0, l1, l2] [v0, v1] m Q ↔ AW d 216 77 [l0, l1, l2] [.int 0, v0, v1] m Q := A_iconst hB_X12_test dX12_test_76 (by decide)
theorem dX12_test_77 : decode cX12_test 77 = .ok (.invokevirtual 193, 3) := by decide +kernel
theorem tX12_test_77 {d : Nat} {l0 l1 l2 : Option Value} {y0 y1 : Value} {a : Nat} {m : jmM} {Q : Option Value → jmM → Prop} : AW d 216 77 [l0, l1, l2] [y0, y1, .ref a] m Q ↔ (mS m a).1 = 12 ∧ CC d 207 [.ref a, y1, y0] m (jK d 216 80 [l0, l1, l2] [] Q) := A_callV hB_X12_test dX12_test_77 hO_X12_test fS_12_193 ⟨Nat.le_of_ble_eq_true rfl, Nat.le_of_ble_eq_true rfl⟩ rfl rfl rfl
theorem dX12_test_80 : decode cX12_test 80 = .ok (.aload_n 0, 1) := by decide +kernel
theorem tX12_test_80 {d : Nat} {l1 l2 : Option Value} {x : Nat} {m : jmM} {Q : Option Value → jmM → Prop} : AW d 216 80 [some (.ref x), l1, l2] [] m Q ↔ AW d 216 81 [some (.ref x), l1, l2] [.ref x] m Q := A_aload_n hB_X12_test dX12_test_80 rfl
theorem dX12_test_81 : decode cX12_test 81 = .ok (.getfield 35, 3) := by decide +kernel
theorem tX12_test_81 {d : Nat} {l0 l1 l2 : Option Value} {a : Nat} {m : jmM} {Q : Option Value → jmM → Prop} : AW d 216 81 [l0, l1, l2] [.ref a] m Q ↔ (mS m a).1 = 12 ∧ AW d 216 84 [l0, l1, l2] [va_rf (mR m a 17)] m Q := A_getfield (f := fun m a => va_rf (mR m a 17)) hB_X12_test dX12_test_81 hO_X12_test fF_12_35 rfl
theorem dX12_test_84 : decode cX12_test 84 = .ok (.aload_n 0, 1) := by decide +kernel
theorem tX12_test_84 {d : Nat} {l1 l2 : Option Value} {v0 : Value} {x : Nat} {m : jmM} {Q : Option Value → jmM → Prop} : AW d 216 84 [some (.ref x), l1, l2] [v0] m Q ↔ AW d 216 85 [some (.ref x), l1, l2] [.ref x, v0] m Q := A_aload_n hB_X12_test dX12_test_84 rfl
theorem dX12_test_85 : decode cX12_test 85 = .ok (.getfield 166, 3) := by decide +kernel
theorem tX12_test_85 {d : Nat} {l0 l1 l2 : Option Value} {v1 : Value} {a : Nat} {m : jmM} {Q : Option Value → jmM → Prop} : AW d 216 85 [l0, l1, l2] [.ref a, v1] m Q ↔ (mS m a).1 = 12 ∧ AW d 216 88 [l0, l1, l2] [.int (mI m a 18), v1] m Q := A_getfield (f := fun m a => .int (mI m a 18)) hB_X12_test dX12_test_85 hO_X12_test fF_12_166 rfl
theorem dX12_test_88 : decode cX12_test 88 = .ok (.iload_n 2, 1) := by decide +kernel
theorem tX12_test_88 {d : Nat} {l0 l1 : Option Value} {v0 v1 : Value} {x : Int32} {m : jmM} {Q : Option Value → jmM → Prop} : AW d 216 88 [l0, l1, some (.int x)] [v0, v1] m Q ↔ AW d 216 89 [l0, l1, some (.int x)] [.int x, v0, v1] m Q := A_iload_n hB_X12_test dX12_test_88 rfl
theorem dX12_test_89 : decode cX12_test 89 = .ok (.iastore, 1) := by decide +kernel
theorem tX12_test_89 {d : Nat} {l0 l1 l2 : Option Value} {x i : Int32} {a : Nat} {m : jmM} {Q : Option Value → jmM → Prop} : AW d 216 89 [l0, l1, l2] [.int x, .int i, .ref a] m Q ↔ ((mS m a).1 = 20 ∧ jIx i (mS m a).2) ∧ AW d 216 90 [l0, l1, l2] [] (cI m a (jup (mI m a) (jx i) x)) Q := A_iastore hB_X12_test dX12_test_89
theorem dX12_test_90 : decode cX12_test 90 = .ok (.aload_n 0, 1) := by decide +kernel
theorem tX12_test_90 {d : Nat} {l1 l2 : Option Value} {x : Nat} {m : jmM} {Q : Option Value → jmM → Prop} : AW d 216 90 [some (.ref x), l1, l2] [] m Q ↔ AW d 216 91 [some (.ref x), l1, l2] [.ref x] m Q := A_aload_n hB_X12_test dX12_test_90 rfl
theorem dX12_test_91 : decode cX12_test 91 = .ok (.dup, 1) := by decide +kernel
theorem tX12_test_91 {d : Nat} {l0 l1 l2 : Option Value} {x : Nat} {m : jmM} {Q : Option Value → jmM → Prop} : AW d 216 91 [l0, l1, l2] [.ref x] m Q ↔ AW d 216 92 [l0, l1, l2] [.ref x, .ref x] m Q := A_dup_a hB_X12_test dX12_test_91
theorem dX12_test_92 : decode cX12_test 92 = .ok (.getfield 166, 3) := by decide +kernel
theorem tX12_test_92 {d : Nat} {l0 l1 l2 : Option Value} {v1 : Value} {a : Nat} {m : jmM} {Q : Option Value → jmM → Prop} : AW d 216 92 [l0, l1, l2] [.ref a, v1] m Q ↔ (mS m a).1 = 12 ∧ AW d 216 95 [l0, l1, l2] [.int (mI m a 18), v1] m Q := A_getfield (f := fun m a => .int (mI m a 18)) hB_X12_test dX12_test_92 hO_X12_test fF_12_166 rfl
theorem dX12_test_95 : decode cX12_test 95 = .ok (.iconst 1, 1) := by decide +kernel
theorem tX12_test_95 {d : Nat} {l0 l1 l2 : Option Value} {v0 v1 : Value} {m : jmM} {Q : Option Value → jmM → Prop} : AW d 216 95 [l0, l1, l2] [v0, v1] m Q ↔ AW d 216 96 [l0, l1, l2] [.int 1, v0, v1] m Q := A_iconst hB_X12_test dX12_test_95 (by decide)
theorem dX12_test_96 : decode cX12_test 96 = .ok (.iadd, 1) := by decide +kernel
theorem tX12_test_96 {d : Nat} {l0 l1 l2 : Option Value} {v2 : Value} {x y : Int32} {m : jmM} {Q : Option Value → jmM → Prop} : AW d 216 96 [l0, l1, l2] [.int y, .int x, v2] m Q ↔ AW d 216 97 [l0, l1, l2] [.int (x + y), v2] m Q := A_iadd hB_X12_test dX12_test_96
theorem dX12_test_97 : decode cX12_test 97 = .ok (.putfield 166, 3) := by decide +kernel
theorem tX12_test_97 {d : Nat} {l0 l1 l2 : Option Value} {x : Int32} {a : Nat} {m : jmM} {Q : Option Value → jmM → Prop} : AW d 216 97 [l0, l1, l2] [.int x, .ref a] m Q ↔ (mS m a).1 = 12 ∧ AW d 216 100 [l0, l1, l2] [] (cI m a (jup (mI m a) 18 x)) Q := A_putI hB_X12_test dX12_test_97 hO_X12_test fF_12_166 rfl (fun h => Bool.noConfusion h)
theorem dX12_test_100 : decode cX12_test 100 = .ok (.goto (-98), 3) := by decide +kernel
theorem tX12_test_100 {d : Nat} {l0 l1 l2 : Option Value} {m : jmM} {Q : Option Value → jmM → Prop} : AW d 216 100 [l0, l1, l2] [] m Q ↔ AW d 216 2 [l0, l1, l2] [] m Q := A_goto hB_X12_test dX12_test_100 (by decide)
theorem dX12_test_103 : decode cX12_test 103 = .ok (.aload_n 0, 1) := by decide +kernel
theorem tX12_test_103 {d : Nat} {l1 l2 : Option Value} {x : Nat} {m : jmM} {Q : Option Value → jmM → Prop} : AW d 216 103 [some (.ref x), l1, l2] [] m Q ↔ AW d 216 104 [some (.ref x), l1, l2] [.ref x] m Q := A_aload_n hB_X12_test dX12_test_103 rfl
theorem dX12_test_104 : decode cX12_test 104 = .ok (.invokevirtual 211, 3) := by decide +kernel
theorem tX12_test_104 {d : Nat} {l0 l1 l2 : Option Value} {a : Nat} {m : jmM} {Q : Option Value → jmM → Prop} : AW d 216 104 [l0, l1, l2] [.ref a] m Q ↔ (mS m a).1 = 12 ∧ CC d 214 [.ref a] m (jK d 216 107 [l0, l1, l2] [] Q) := A_callV hB_X12_test dX12_test_104 hO_X12_test fS_12_211 ⟨Nat.le_of_ble_eq_true rfl, Nat.le_of_ble_eq_true rfl⟩ rfl rfl rfl
theorem dX12_test_107 : decode cX12_test 107 = .ok (.ifCond .eq 18, 3) := by decide +kernel
theorem tX12_test_107 {d : Nat} {l0 l1 l2 : Option Value} {x : Int32} {m : jmM} {Q : Option Value → jmM → Prop} : AW d 216 107 [l0, l1, l2] [.int x] m Q ↔ if x = 0 then AW d 216 125 [l0, l1, l2] [] m Q else AW d 216 110 [l0, l1, l2] [] m Q := A_if_eq hB_X12_test dX12_test_107 (by decide)
theorem dX12_test_110 : decode cX12_test 110 = .ok (.aload_n 0, 1) := by decide +kernel
theorem tX12_test_110 {d : Nat} {l1 l2 : Option Value} {x : Nat} {m : jmM} {Q : Option Value → jmM → Prop} : AW d 216 110 [some (.ref x), l1, l2] [] m Q ↔ AW d 216 111 [some (.ref x), l1, l2] [.ref x] m Q := A_aload_n hB_X12_test dX12_test_110 rfl
theorem dX12_test_111 : decode cX12_test 111 = .ok (.invokevirtual 114, 3) := by decide +kernel
theorem tX12_test_111 {d : Nat} {l0 l1 l2 : Option Value} {a : Nat} {m : jmM} {Q : Option Value → jmM → Prop} : AW d 216 111 [l0, l1, l2] [.ref a] m Q ↔ (mS m a).1 = 12 ∧ CC d 195 [.ref a] m (jK d 216 114 [l0, l1, l2] [] Q) := A_callV hB_X12_test dX12_test_111 hO_X12_test fS_12_114 ⟨Nat.le_of_ble_eq_true rfl, Nat.le_of_ble_eq_true rfl⟩ rfl rfl rfl
theorem dX12_test_114 : decode cX12_test 114 = .ok (.pop, 1) := by decide +kernel
theorem tX12_test_114 {d : Nat} {l0 l1 l2 : Option Value} {x : Int32} {m : jmM} {Q : Option Value → jmM → Prop} : AW d 216 114 [l0, l1, l2] [.int x] m Q ↔ AW d 216 115 [l0, l1, l2] [] m Q := A_pop_i hB_X12_test dX12_test_114
theorem dX12_test_115 : decode cX12_test 115 = .ok (.aload_n 0, 1) := by decide +kernel
theorem tX12_test_115 {d : Nat} {l1 l2 : Option Value} {x : Nat} {m : jmM} {Q : Option Value → jmM → Prop} : AW d 216 115 [some (.ref x), l1, l2] [] m Q ↔ AW d 216 116 [some (.ref x), l1, l2] [.ref x] m Q := A_aload_n hB_X12_test dX12_test_115 rfl
theorem dX12_test_116 : decode cX12_test 116 = .ok (.iconst 0, 1) := by decide +kernel
theorem tX12_test_116 {d : Nat} {l0 l1 l2 : Option Value} {v0 : Value} {m : jmM} {Q : Option Value → jmM → Prop} : AW d 216 116 [l0, l1, l2] [v0] m Q ↔ AW d 216 117 [l0, l1, l2] [.int 0, v0] m Q := A_iconst hB_X12_test dX12_test_116 (by decide)
theorem dX12_test_117 : decode cX12_test 117 = .ok (.aload_n 0, 1) := by decide +kernel
theorem tX12_test_117 {d : Nat} {l1 l2 : Option Value} {v0 v1 : Value} {x : Nat} {m : jmM} {Q : Option Value → jmM → Prop} : AW d 216 117 [some (.ref x), l1, l2] [v0, v1] m Q ↔ AW d 216 118 [some (.ref x), l1, l2] [.ref x, v0, v1] m Q := A_aload_n hB_X12_test dX12_test_117 rfl
theorem dX12_test_118 : decode cX12_test 118 = .ok (.getfield 111, 3) := by decide +kernel
theorem tX12_test_118 {d : Nat} {l0 l1 l2 : Option Value} {v1 v2 : Value} {a : Nat} {m : jmM} {Q : Option Value → jmM → Prop} : AW d 216 118 [l0, l1, l2] [.ref a, v1, v2] m Q ↔ (mS m a).1 = 12 ∧ AW d 216 121 [l0, l1, l2] [.int (mI m a 11), v1, v2] m Q := A_getfield (f := fun m a => .int (mI m a 11)) hB_X12_test dX12_test_118 hO_X12_test fF_12_111 rfl
theorem dX12_test_121 : decode cX12_test 121 = .ok (.invokevirtual 132, 3) := by decide +kernel
theorem tX12_test_121 {d : Nat} {l0 l1 l2 : Option Value} {y0 y1 : Value} {a : Nat} {m : jmM} {Q : Option Value → jmM → Prop} : AW d 216 121 [l0, l1, l2] [y0, y1, .ref a] m Q ↔ (mS m a).1 = 12 ∧ CC d 194 [.ref a, y1, y0] m (jK d 216 124 [l0, l1, l2] [] Q) := A_callV hB_X12_test dX12_test_121 hO_X12_test fS_12_132 ⟨Nat.le_of_ble_eq_true rfl, Nat.le_of_ble_eq_true rfl⟩ rfl rfl rfl
theorem dX12_test_124 : decode cX12_test 124 = .ok (.ireturn, 1) := by decide +kernel
theorem tX12_test_124 {d : Nat} {l0 l1 l2 : Option Value} {x : Int32} {m : jmM} {Q : Option Value → jmM → Prop} : AW d 216 124 [l0, l1, l2] [.int x] m Q ↔ jBool x ∧ Q (some (.int x)) m := A_zreturn hB_X12_test dX12_test_124 hR_X12_test
theorem dX12_test_125 : decode cX12_test 125 = .ok (.aload_n 0, 1) := by decide +kernel
theorem tX12_test_125 {d : Nat} {l1 l2 : Option Value} {x : Nat} {m : jmM} {Q : Option Value → jmM → Prop} : AW d 216 125 [some (.ref x), l1, l2] [] m Q ↔ AW d 216 126 [some (.ref x), l1, l2] [.ref x] m Q := A_aload_n hB_X12_test dX12_test_125 rfl
theorem dX12_test_126 : decode cX12_test 126 = .ok (.iconst 1, 1) := by decide +kernel
theorem tX12_test_126 {d : Nat} {l0 l1 l2 : Option Value} {v0 : Value} {m : jmM} {Q : Option Value → jmM → Prop} : AW d 216 126 [l0, l1, l2] [v0] m Q ↔ AW d 216 127 [l0, l1, l2] [.int 1, v0] m Q := A_iconst hB_X12_test dX12_test_126 (by decide)
theorem dX12_test_127 : decode cX12_test 127 = .ok (.iconst 0, 1) := by decide +kernel
theorem tX12_test_127 {d : Nat} {l0 l1 l2 : Option Value} {v0 v1 : Value} {m : jmM} {Q : Option Value → jmM → Prop} : AW d 216 127 [l0, l1, l2] [v0, v1] m Q ↔ AW d 216 128 [l0, l1, l2] [.int 0, v0, v1] m Q := A_iconst hB_X12_test dX12_test_127 (by decide)
theorem dX12_test_128 : decode cX12_test 128 = .ok (.invokevirtual 193, 3) := by decide +kernel
theorem tX12_test_128 {d : Nat} {l0 l1 l2 : Option Value} {y0 y1 : Value} {a : Nat} {m : jmM} {Q : Option Value → jmM → Prop} : AW d 216 128 [l0, l1, l2] [y0, y1, .ref a] m Q ↔ (mS m a).1 = 12 ∧ CC d 207 [.ref a, y1, y0] m (jK d 216 131 [l0, l1, l2] [] Q) := A_callV hB_X12_test dX12_test_128 hO_X12_test fS_12_193 ⟨Nat.le_of_ble_eq_true rfl, Nat.le_of_ble_eq_true rfl⟩ rfl rfl rfl
theorem dX12_test_131 : decode cX12_test 131 = .ok (.iconst 1, 1) := by decide +kernel
theorem tX12_test_131 {d : Nat} {l0 l1 l2 : Option Value} {m : jmM} {Q : Option Value → jmM → Prop} : AW d 216 131 [l0, l1, l2] [] m Q ↔ AW d 216 132 [l0, l1, l2] [.int 1] m Q := A_iconst hB_X12_test dX12_test_131 (by decide)
theorem dX12_test_132 : decode cX12_test 132 = .ok (.ireturn, 1) := by decide +kernel
theorem tX12_test_132 {d : Nat} {l0 l1 l2 : Option Value} {x : Int32} {m : jmM} {Q : Option Value → jmM → Prop} : AW d 216 132 [l0, l1, l2] [.int x] m Q ↔ jBool x ∧ Q (some (.int x)) m := A_zreturn hB_X12_test dX12_test_132 hR_X12_test
