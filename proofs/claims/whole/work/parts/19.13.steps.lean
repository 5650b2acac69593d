/-! steps of PulledCrystalLaw, by program -/
theorem hB_L_law : jB 289 = cL_law := rfl
theorem hO_L_law : jO 289 = 13 := rfl
theorem hR_L_law : jRt 289 = (some .boolean) := rfl
theorem dL_law_0 : decode cL_law 0 = .ok (.new 7, 3) := by decide +kernel
theorem tL_law_0 {d : Nat} {l0 l1 l2 l3 : Option Value} {m : jmM} {Q : Option Value → jmM → Prop} : AW d 289 0 [l0, l1, l2, l3] [] m Q ↔ AW d 289 3 [l0, l1, l2, l3] [.ref (mN m)] (jNew m 11 19) Q := A_new hB_L_law dL_law_0 hO_L_law fN_13_7 rfl
theorem dL_law_3 : decode cL_law 3 = .ok (.dup, 1) := by decide +kernel
theorem tL_law_3 {d : Nat} {l0 l1 l2 l3 : Option Value} {x : Nat} {m : jmM} {Q : Option Value → jmM → Prop} : AW d 289 3 [l0, l1, l2, l3] [.ref x] m Q ↔ AW d 289 4 [l0, l1, l2, l3] [.ref x, .ref x] m Q := A_dup_a hB_L_law dL_law_3
theorem dL_law_4 : decode cL_law 4 = .ok (.invokespecial 9, 3) := by decide +kernel
theorem tL_law_4 {d : Nat} {l0 l1 l2 l3 : Option Value} {v1 : Value} {a : Nat} {m : jmM} {Q : Option Value → jmM → Prop} : AW d 289 4 [l0, l1, l2, l3] [.ref a, v1] m Q ↔ CC d 140 [.ref a] m (jK d 289 7 [l0, l1, l2, l3] [v1] Q) := A_callI3 hB_L_law dL_law_4 hO_L_law fS_13_9 ⟨Nat.le_of_ble_eq_true rfl, Nat.le_of_ble_eq_true rfl⟩ rfl rfl
theorem dL_law_7 : decode cL_law 7 = .ok (.astore_n 1, 1) := by decide +kernel
theorem tL_law_7 {d : Nat} {l0 l1 l2 l3 : Option Value} {x : Nat} {m : jmM} {Q : Option Value → jmM → Prop} : AW d 289 7 [l0, l1, l2, l3] [.ref x] m Q ↔ AW d 289 8 [jc1 l0, some (.ref x), l2, l3] [] m Q := A_astore_n hB_L_law dL_law_7 (Nat.le_of_ble_eq_true rfl) rfl
theorem dL_law_8 : decode cL_law 8 = .ok (.new 10, 3) := by decide +kernel
theorem tL_law_8 {d : Nat} {l0 l1 l2 l3 : Option Value} {m : jmM} {Q : Option Value → jmM → Prop} : AW d 289 8 [l0, l1, l2, l3] [] m Q ↔ AW d 289 11 [l0, l1, l2, l3] [.ref (mN m)] (jNew m 12 49) Q := A_new hB_L_law dL_law_8 hO_L_law fN_13_10 rfl
theorem dL_law_11 : decode cL_law 11 = .ok (.dup, 1) := by decide +kernel
theorem tL_law_11 {d : Nat} {l0 l1 l2 l3 : Option Value} {x : Nat} {m : jmM} {Q : Option Value → jmM → Prop} : AW d 289 11 [l0, l1, l2, l3] [.ref x] m Q ↔ AW d 289 12 [l0, l1, l2, l3] [.ref x, .ref x] m Q := A_dup_a hB_L_law dL_law_11
theorem dL_law_12 : decode cL_law 12 = .ok (.invokespecial 12, 3) := by decide +kernel
theorem tL_law_12 {d : Nat} {l0 l1 l2 l3 : Option Value} {v1 : Value} {a : Nat} {m : jmM} {Q : Option Value → jmM → Prop} : AW d 289 12 [l0, l1, l2, l3] [.ref a, v1] m Q ↔ CC d 188 [.ref a] m (jK d 289 15 [l0, l1, l2, l3] [v1] Q) := A_callI3 hB_L_law dL_law_12 hO_L_law fS_13_12 ⟨Nat.le_of_ble_eq_true rfl, Nat.le_of_ble_eq_true rfl⟩ rfl rfl
theorem dL_law_15 : decode cL_law 15 = .ok (.astore_n 2, 1) := by decide +kernel
theorem tL_law_15 {d : Nat} {l0 l1 l2 l3 : Option Value} {x : Nat} {m : jmM} {Q : Option Value → jmM → Prop} : AW d 289 15 [l0, l1, l2, l3] [.ref x] m Q ↔ AW d 289 16 [l0, jc1 l1, some (.ref x), l3] [] m Q := A_astore_n hB_L_law dL_law_15 (Nat.le_of_ble_eq_true rfl) rfl
theorem dL_law_16 : decode cL_law 16 = .ok (.iconst 0, 1) := by decide +kernel
theorem tL_law_16 {d : Nat} {l0 l1 l2 l3 : Option Value} {m : jmM} {Q : Option Value → jmM → Prop} : AW d 289 16 [l0, l1, l2, l3] [] m Q ↔ AW d 289 17 [l0, l1, l2, l3] [.int 0] m Q := A_iconst hB_L_law dL_law_16 (by decide)
theorem dL_law_17 : decode cL_law 17 = .ok (.istore_n 3, 1) := by decide +kernel
theorem tL_law_17 {d : Nat} {l0 l1 l2 l3 : Option Value} {x : Int32} {m : jmM} {Q : Option Value → jmM → Prop} : AW d 289 17 [l0, l1, l2, l3] [.int x] m Q ↔ AW d 289 18 [l0, l1, jc1 l2, some (.int x)] [] m Q := A_istore_n hB_L_law dL_law_17 (Nat.le_of_ble_eq_true rfl) rfl
theorem dL_law_18 : decode cL_law 18 = .ok (.iload_n 3, 1) := by decide +kernel
theorem tL_law_18 {d : Nat} {l0 l1 l2 : Option Value} {x : Int32} {m : jmM} {Q : Option Value → jmM → Prop} : AW d 289 18 [l0, l1, l2, some (.int x)] [] m Q ↔ AW d 289 19 [l0, l1, l2, some (.int x)] [.int x] m Q := A_iload_n hB_L_law dL_law_18 rfl
theorem dL_law_19 : decode cL_law 19 = .ok (.aload_n 0, 1) := by decide +kernel
theorem tL_law_19 {d : Nat} {l1 l2 l3 : Option Value} {v0 : Value} {x : Nat} {m : jmM} {Q : Option Value → jmM → Prop} : AW d 289 19 [some (.ref x), l1, l2, l3] [v0] m Q ↔ AW d 289 20 [some (.ref x), l1, l2, l3] [.ref x, v0] m Q := A_aload_n hB_L_law dL_law_19 rfl
theorem dL_law_20 : decode cL_law 20 = .ok (.arraylength, 1) := by decide +kernel
theorem tL_law_20 {d : Nat} {l0 l1 l2 l3 : Option Value} {v1 : Value} {a : Nat} {m : jmM} {Q : Option Value → jmM → Prop} : AW d 289 20 [l0, l1, l2, l3] [.ref a, v1] m Q ↔ ((20 ≤ (mS m a).1 ∧ (mS m a).1 ≤ 26) ∨ a = jScr) ∧ AW d 289 21 [l0, l1, l2, l3] [.int (nI (mS m a).2), v1] m Q := A_arraylength hB_L_law dL_law_20
theorem dL_law_21 : decode cL_law 21 = .ok (.bipush 10, 2) := by decide +kernel
theorem tL_law_21 {d : Nat} {l0 l1 l2 l3 : Option Value} {v0 v1 : Value} {m : jmM} {Q : Option Value → jmM → Prop} : AW d 289 21 [l0, l1, l2, l3] [v0, v1] m Q ↔ AW d 289 23 [l0, l1, l2, l3] [.int 10, v0, v1] m Q := A_bipush hB_L_law dL_law_21 rfl
theorem dL_law_23 : decode cL_law 23 = .ok (.isub, 1) := by decide +kernel
theorem tL_law_23 {d : Nat} {l0 l1 l2 l3 : Option Value} {v2 : Value} {x y : Int32} {m : jmM} {Q : Option Value → jmM → Prop} : AW d 289 23 [l0, l1, l2, l3] [.int y, .int x, v2] m Q ↔ AW d 289 24 [l0, l1, l2, l3] [.int (x - y), v2] m Q := A_isub hB_L_law dL_law_23
theorem dL_law_24 : decode cL_law 24 = .ok (.if_icmp .gt 1404, 3) := by decide +kernel
theorem tL_law_24 {d : Nat} {l0 l1 l2 l3 : Option Value} {x y : Int32} {m : jmM} {Q : Option Value → jmM → Prop} : AW d 289 24 [l0, l1, l2, l3] [.int y, .int x] m Q ↔ if y < x then AW d 289 1428 [l0, l1, l2, l3] [] m Q else AW d 289 27 [l0, l1, l2, l3] [] m Q := A_icmp_gt hB_L_law dL_law_24 (by decide)
theorem dL_law_27 : decode cL_law 27 = .ok (.aload_n 0, 1) := by decide +kernel
theorem tL_law_27 {d : Nat} {l1 l2 l3 : Option Value} {x : Nat} {m : jmM} {Q : Option Value → jmM → Prop} : AW d 289 27 [some (.ref x), l1, l2, l3] [] m Q ↔ AW d 289 28 [some (.ref x), l1, l2, l3] [.ref x] m Q := A_aload_n hB_L_law dL_law_27 rfl
theorem dL_law_28 : decode cL_law 28 = .ok (.iload_n 3, 1) := by decide +kernel
theorem tL_law_28 {d : Nat} {l0 l1 l2 : Option Value} {v0 : Value} {x : Int32} {m : jmM} {Q : Option Value → jmM → Prop} : AW d 289 28 [l0, l1, l2, some (.int x)] [v0] m Q ↔ AW d 289 29 [l0, l1, l2, some (.int x)] [.int x, v0] m Q := A_iload_n hB_L_law dL_law_28 rfl
theorem dL_law_29 : decode cL_law 29 = .ok (.iaload, 1) := by decide +kernel
theorem tL_law_29 {d : Nat} {l0 l1 l2 l3 : Option Value} {i : Int32} {a : Nat} {m : jmM} {Q : Option Value → jmM → Prop} : AW d 289 29 [l0, l1, l2, l3] [.int i, .ref a] m Q ↔ (((mS m a).1 = 20 ∨ a = jScr) ∧ jIx i (mS m a).2) ∧ AW d 289 30 [l0, l1, l2, l3] [.int (mI m a (jx i))] m Q := A_iaload hB_L_law dL_law_29
theorem dL_law_30 : decode cL_law 30 = .ok (.bipush 63, 2) := by decide +kernel
theorem tL_law_30 {d : Nat} {l0 l1 l2 l3 : Option Value} {v0 : Value} {m : jmM} {Q : Option Value → jmM → Prop} : AW d 289 30 [l0, l1, l2, l3] [v0] m Q ↔ AW d 289 32 [l0, l1, l2, l3] [.int 63, v0] m Q := A_bipush hB_L_law dL_law_30 rfl
theorem dL_law_32 : decode cL_law 32 = .ok (.iand, 1) := by decide +kernel
theorem tL_law_32 {d : Nat} {l0 l1 l2 l3 : Option Value} {x y : Int32} {m : jmM} {Q : Option Value → jmM → Prop} : AW d 289 32 [l0, l1, l2, l3] [.int y, .int x] m Q ↔ AW d 289 33 [l0, l1, l2, l3] [.int (x &&& y)] m Q := A_iand hB_L_law dL_law_32
theorem dL_law_33 : decode cL_law 33 = .ok (.tableswitch 1389 0 35 #[159, 222, 245, 258, 271, 314, 425, 448, 471, 484, 507, 540, 574, 608, 631, 654, 677, 690, 703, 778, 791, 814, 877, 920, 973, 996, 1049, 1082, 1115, 1148, 1181, 1234, 1267, 1300, 1343, 1366], 159) := by decide +kernel
theorem tL_law_33 {d : Nat} {l0 l1 l2 l3 : Option Value} {x : Int32} {m : jmM} {Q : Option Value → jmM → Prop} : AW d 289 33 [l0, l1, l2, l3] [.int x] m Q ↔ if x = 0 then AW d 289 192 [l0, l1, l2, l3] [] m Q else if x = 1 then AW d 289 255 [l0, l1, l2, l3] [] m Q else if x = 2 then AW d 289 278 [l0, l1, l2, l3] [] m Q else if x = 3 then AW d 289 291 [l0, l1, l2, l3] [] m Q else if x = 4 then AW d 289 304 [l0, l1, l2, l3] [] m Q else if x = 5 then AW d 289 347 [l0, l1, l2, l3] [] m Q else if x = 6 then AW d 289 458 [l0, l1, l2, l3] [] m Q else if x = 7 then AW d 289 481 [l0, l1, l2, l3] [] m Q else if x = 8 then AW d 289 504 [l0, l1, l2, l3] [] m Q else if x = 9 then AW d 289 517 [l0, l1, l2, l3] [] m Q else if x = 10 then AW d 289 540 [l0, l1, l2, l3] [] m Q else if x = 11 then AW d 289 573 [l0, l1, l2, l3] [] m Q else if x = 12 then AW d 289 607 [l0, l1, l2, l3] [] m Q else if x = 13 then AW d 289 641 [l0, l1, l2, l3] [] m Q else if x = 14 then AW d 289 664 [l0, l1, l2, l3] [] m Q else if x = 15 then AW d 289 687 [l0, l1, l2, l3] [] m Q else if x = 16 then AW d 289 710 [l0, l1, l2, l3] [] m Q else if x = 17 then AW d 289 723 [l0, l1, l2, l3] [] m Q else if x = 18 then AW d 289 736 [l0, l1, l2, l3] [] m Q else if x = 19 then AW d 289 811 [l0, l1, l2, l3] [] m Q else if x = 20 then AW d 289 824 [l0, l1, l2, l3] [] m Q else if x = 21 then AW d 289 847 [l0, l1, l2, l3] [] m Q else if x = 22 then AW d 289 910 [l0, l1, l2, l3] [] m Q else if x = 23 then AW d 289 953 [l0, l1, l2, l3] [] m Q else if x = 24 then AW d 289 1006 [l0, l1, l2, l3] [] m Q else if x = 25 then AW d 289 1029 [l0, l1, l2, l3] [] m Q else if x = 26 then AW d 289 1082 [l0, l1, l2, l3] [] m Q else if x = 27 then AW d 289 1115 [l0, l1, l2, l3] [] m Q else if x = 28 then AW d 289 1148 [l0, l1, l2, l3] [] m Q else if x = 29 then AW d 289 1181 [l0, l1, l2, l3] [] m Q else if x = 30 then AW d 289 1214 [l0, l1, l2, l3] [] m Q else if x = 31 then AW d 289 1267 [l0, l1, l2, l3] [] m Q else if x = 32 then AW d 289 1300 [l0, l1, l2, l3] [] m Q else if x = 33 then AW d 289 1333 [l0, l1, l2, l3] [] m Q else if x = 34 then AW d 289 1376 [l0, l1, l2, l3] [] m Q else if x = 35 then AW d 289 1399 [l0, l1, l2, l3] [] m Q else AW d 289 1422 [l0, l1, l2, l3] [] m Q := by
  by_cases h0 : x = 0
  · subst h0; rw [if_pos rfl]; exact A_switch hB_L_law dL_law_33 (by decide) (by decide)
  rw [if_neg h0]
  have e0 := i32_ne (n := 0) (by decide) h0
  by_cases h1 : x = 1
  · subst h1; rw [if_pos rfl]; exact A_switch hB_L_law dL_law_33 (by decide) (by decide)
  rw [if_neg h1]
  have e1 := i32_ne (n := 1) (by decide) h1
  by_cases h2 : x = 2
  · subst h2; rw [if_pos rfl]; exact A_switch hB_L_law dL_law_33 (by decide) (by decide)
  rw [if_neg h2]
  have e2 := i32_ne (n := 2) (by decide) h2
  by_cases h3 : x = 3
  · subst h3; rw [if_pos rfl]; exact A_switch hB_L_law dL_law_33 (by decide) (by decide)
  rw [if_neg h3]
  have e3 := i32_ne (n := 3) (by decide) h3
  by_cases h4 : x = 4
  · subst h4; rw [if_pos rfl]; exact A_switch hB_L_law dL_law_33 (by decide) (by decide)
  rw [if_neg h4]
  have e4 := i32_ne (n := 4) (by decide) h4
  by_cases h5 : x = 5
  · subst h5; rw [if_pos rfl]; exact A_switch hB_L_law dL_law_33 (by decide) (by decide)
  rw [if_neg h5]
  have e5 := i32_ne (n := 5) (by decide) h5
  by_cases h6 : x = 6
  · subst h6; rw [if_pos rfl]; exact A_switch hB_L_law dL_law_33 (by decide) (by decide)
  rw [if_neg h6]
  have e6 := i32_ne (n := 6) (by decide) h6
  by_cases h7 : x = 7
  · subst h7; rw [if_pos rfl]; exact A_switch hB_L_law dL_law_33 (by decide) (by decide)
  rw [if_neg h7]
  have e7 := i32_ne (n := 7) (by decide) h7
  by_cases h8 : x = 8
  · subst h8; rw [if_pos rfl]; exact A_switch hB_L_law dL_law_33 (by decide) (by decide)
  rw [if_neg h8]
  have e8 := i32_ne (n := 8) (by decide) h8
  by_cases h9 : x = 9
  · subst h9; rw [if_pos rfl]; exact A_switch hB_L_law dL_law_33 (by decide) (by decide)
  rw [if_neg h9]
  have e9 := i32_ne (n := 9) (by decide) h9
  by_cases h10 : x = 10
  · subst h10; rw [if_pos rfl]; exact A_switch hB_L_law dL_law_33 (by decide) (by decide)
  rw [if_neg h10]
  have e10 := i32_ne (n := 10) (by decide) h10
  by_cases h11 : x = 11
  · subst h11; rw [if_pos rfl]; exact A_switch hB_L_law dL_law_33 (by decide) (by decide)
  rw [if_neg h11]
  have e11 := i32_ne (n := 11) (by decide) h11
  by_cases h12 : x = 12
  · subst h12; rw [if_pos rfl]; exact A_switch hB_L_law dL_law_33 (by decide) (by decide)
  rw [if_neg h12]
  have e12 := i32_ne (n := 12) (by decide) h12
  by_cases h13 : x = 13
  · subst h13; rw [if_pos rfl]; exact A_switch hB_L_law dL_law_33 (by decide) (by decide)
  rw [if_neg h13]
  have e13 := i32_ne (n := 13) (by decide) h13
  by_cases h14 : x = 14
  · subst h14; rw [if_pos rfl]; exact A_switch hB_L_law dL_law_33 (by decide) (by decide)
  rw [if_neg h14]
  have e14 := i32_ne (n := 14) (by decide) h14
  by_cases h15 : x = 15
  · subst h15; rw [if_pos rfl]; exact A_switch hB_L_law dL_law_33 (by decide) (by decide)
  rw [if_neg h15]
  have e15 := i32_ne (n := 15) (by decide) h15
  by_cases h16 : x = 16
  · subst h16; rw [if_pos rfl]; exact A_switch hB_L_law dL_law_33 (by decide) (by decide)
  rw [if_neg h16]
  have e16 := i32_ne (n := 16) (by decide) h16
  by_cases h17 : x = 17
  · subst h17; rw [if_pos rfl]; exact A_switch hB_L_law dL_law_33 (by decide) (by decide)
  rw [if_neg h17]
  have e17 := i32_ne (n := 17) (by decide) h17
  by_cases h18 : x = 18
  · subst h18; rw [if_pos rfl]; exact A_switch hB_L_law dL_law_33 (by decide) (by decide)
  rw [if_neg h18]
  have e18 := i32_ne (n := 18) (by decide) h18
  by_cases h19 : x = 19
  · subst h19; rw [if_pos rfl]; exact A_switch hB_L_law dL_law_33 (by decide) (by decide)
  rw [if_neg h19]
  have e19 := i32_ne (n := 19) (by decide) h19
  by_cases h20 : x = 20
  · subst h20; rw [if_pos rfl]; exact A_switch hB_L_law dL_law_33 (by decide) (by decide)
  rw [if_neg h20]
  have e20 := i32_ne (n := 20) (by decide) h20
  by_cases h21 : x = 21
  · subst h21; rw [if_pos rfl]; exact A_switch hB_L_law dL_law_33 (by decide) (by decide)
  rw [if_neg h21]
  have e21 := i32_ne (n := 21) (by decide) h21
  by_cases h22 : x = 22
  · subst h22; rw [if_pos rfl]; exact A_switch hB_L_law dL_law_33 (by decide) (by decide)
  rw [if_neg h22]
  have e22 := i32_ne (n := 22) (by decide) h22
  by_cases h23 : x = 23
  · subst h23; rw [if_pos rfl]; exact A_switch hB_L_law dL_law_33 (by decide) (by decide)
  rw [if_neg h23]
  have e23 := i32_ne (n := 23) (by decide) h23
  by_cases h24 : x = 24
  · subst h24; rw [if_pos rfl]; exact A_switch hB_L_law dL_law_33 (by decide) (by decide)
  rw [if_neg h24]
  have e24 := i32_ne (n := 24) (by decide) h24
  by_cases h25 : x = 25
  · subst h25; rw [if_pos rfl]; exact A_switch hB_L_law dL_law_33 (by decide) (by decide)
  rw [if_neg h25]
  have e25 := i32_ne (n := 25) (by decide) h25
  by_cases h26 : x = 26
  · subst h26; rw [if_pos rfl]; exact A_switch hB_L_law dL_law_33 (by decide) (by decide)
  rw [if_neg h26]
  have e26 := i32_ne (n := 26) (by decide) h26
  by_cases h27 : x = 27
  · subst h27; rw [if_pos rfl]; exact A_switch hB_L_law dL_law_33 (by decide) (by decide)
  rw [if_neg h27]
  have e27 := i32_ne (n := 27) (by decide) h27
  by_cases h28 : x = 28
  · subst h28; rw [if_pos rfl]; exact A_switch hB_L_law dL_law_33 (by decide) (by decide)
  rw [if_neg h28]
  have e28 := i32_ne (n := 28) (by decide) h28
  by_cases h29 : x = 29
  · subst h29; rw [if_pos rfl]; exact A_switch hB_L_law dL_law_33 (by decide) (by decide)
  rw [if_neg h29]
  have e29 := i32_ne (n := 29) (by decide) h29
  by_cases h30 : x = 30
  · subst h30; rw [if_pos rfl]; exact A_switch hB_L_law dL_law_33 (by decide) (by decide)
  rw [if_neg h30]
  have e30 := i32_ne (n := 30) (by decide) h30
  by_cases h31 : x = 31
  · subst h31; rw [if_pos rfl]; exact A_switch hB_L_law dL_law_33 (by decide) (by decide)
  rw [if_neg h31]
  have e31 := i32_ne (n := 31) (by decide) h31
  by_cases h32 : x = 32
  · subst h32; rw [if_pos rfl]; exact A_switch hB_L_law dL_law_33 (by decide) (by decide)
  rw [if_neg h32]
  have e32 := i32_ne (n := 32) (by decide) h32
  by_cases h33 : x = 33
  · subst h33; rw [if_pos rfl]; exact A_switch hB_L_law dL_law_33 (by decide) (by decide)
  rw [if_neg h33]
  have e33 := i32_ne (n := 33) (by decide) h33
  by_cases h34 : x = 34
  · subst h34; rw [if_pos rfl]; exact A_switch hB_L_law dL_law_33 (by decide) (by decide)
  rw [if_neg h34]
  have e34 := i32_ne (n := 34) (by decide) h34
  by_cases h35 : x = 35
  · subst h35; rw [if_pos rfl]; exact A_switch hB_L_law dL_law_33 (by decide) (by decide)
  rw [if_neg h35]
  have e35 := i32_ne (n := 35) (by decide) h35
  exact A_switch hB_L_law dL_law_33 (t := 1422) (by decide) (by unfold jsw; rw [if_pos (by omega)]; rfl)
theorem dL_law_192 : decode cL_law 192 = .ok (.aload_n 1, 1) := by decide +kernel
theorem tL_law_192 {d : Nat} {l0 l2 l3 : Option Value} {x : Nat} {m : jmM} {Q : Option Value → jmM → Prop} : AW d 289 192 [l0, some (.ref x), l2, l3] [] m Q ↔ AW d 289 193 [l0, some (.ref x), l2, l3] [.ref x] m Q := A_aload_n hB_L_law dL_law_192 rfl
theorem dL_law_193 : decode cL_law 193 = .ok (.aload_n 0, 1) := by decide +kernel
theorem tL_law_193 {d : Nat} {l1 l2 l3 : Option Value} {v0 : Value} {x : Nat} {m : jmM} {Q : Option Value → jmM → Prop} : AW d 289 193 [some (.ref x), l1, l2, l3] [v0] m Q ↔ AW d 289 194 [some (.ref x), l1, l2, l3] [.ref x, v0] m Q := A_aload_n hB_L_law dL_law_193 rfl
theorem dL_law_194 : decode cL_law 194 = .ok (.iload_n 3, 1) := by decide +kernel
theorem tL_law_194 {d : Nat} {l0 l1 l2 : Option Value} {v0 v1 : Value} {x : Int32} {m : jmM} {Q : Option Value → jmM → Prop} : AW d 289 194 [l0, l1, l2, some (.int x)] [v0, v1] m Q ↔ AW d 289 195 [l0, l1, l2, some (.int x)] [.int x, v0, v1] m Q := A_iload_n hB_L_law dL_law_194 rfl
theorem dL_law_195 : decode cL_law 195 = .ok (.iconst 1, 1) := by decide +kernel
theorem tL_law_195 {d : Nat} {l0 l1 l2 l3 : Option Value} {v0 v1 v2 : Value} {m : jmM} {Q : Option Value → jmM → Prop} : AW d 289 195 [l0, l1, l2, l3] [v0, v1, v2] m Q ↔ AW d 289 196 [l0, l1, l2, l3] [.int 1, v0, v1, v2] m Q := A_iconst hB_L_law dL_law_195 (by decide)
theorem dL_law_196 : decode cL_law 196 = .ok (.iadd, 1) := by decide +kernel
theorem tL_law_196 {d : Nat} {l0 l1 l2 l3 : Option Value} {v2 v3 : Value} {x y : Int32} {m : jmM} {Q : Option Value → jmM → Prop} : AW d 289 196 [l0, l1, l2, l3] [.int y, .int x, v2, v3] m Q ↔ AW d 289 197 [l0, l1, l2, l3] [.int (x + y), v2, v3] m Q := A_iadd hB_L_law dL_law_196
theorem dL_law_197 : decode cL_law 197 = .ok (.iaload, 1) := by decide +kernel
theorem tL_law_197 {d : Nat} {l0 l1 l2 l3 : Option Value} {v2 : Value} {i : Int32} {a : Nat} {m : jmM} {Q : Option Value → jmM → Prop} : AW d 289 197 [l0, l1, l2, l3] [.int i, .ref a, v2] m Q ↔ (((mS m a).1 = 20 ∨ a = jScr) ∧ jIx i (mS m a).2) ∧ AW d 289 198 [l0, l1, l2, l3] [.int (mI m a (jx i)), v2] m Q := A_iaload hB_L_law dL_law_197
theorem dL_law_198 : decode cL_law 198 = .ok (.aload_n 0, 1) := by decide +kernel
theorem tL_law_198 {d : Nat} {l1 l2 l3 : Option Value} {v0 v1 : Value} {x : Nat} {m : jmM} {Q : Option Value → jmM → Prop} : AW d 289 198 [some (.ref x), l1, l2, l3] [v0, v1] m Q ↔ AW d 289 199 [some (.ref x), l1, l2, l3] [.ref x, v0, v1] m Q := A_aload_n hB_L_law dL_law_198 rfl
theorem dL_law_199 : decode cL_law 199 = .ok (.iload_n 3, 1) := by decide +kernel
theorem tL_law_199 {d : Nat} {l0 l1 l2 : Option Value} {v0 v1 v2 : Value} {x : Int32} {m : jmM} {Q : Option Value → jmM → Prop} : AW d 289 199 [l0, l1, l2, some (.int x)] [v0, v1, v2] m Q ↔ AW d 289 200 [l0, l1, l2, some (.int x)] [.int x, v0, v1, v2] m Q := A_iload_n hB_L_law dL_law_199 rfl
theorem dL_law_200 : decode cL_law 200 = .ok (.iconst 2, 1) := by decide +kernel
theorem tL_law_200 {d : Nat} {l0 l1 l2 l3 : Option Value} {v0 v1 v2 v3 : Value} {m : jmM} {Q : Option Value → jmM → Prop} : AW d 289 200 [l0, l1, l2, l3] [v0, v1, v2, v3] m Q ↔ AW d 289 201 [l0, l1, l2, l3] [.int 2, v0, v1, v2, v3] m Q := A_iconst hB_L_law dL_law_200 (by decide)
theorem dL_law_201 : decode cL_law 201 = .ok (.iadd, 1) := by decide +kernel
theorem tL_law_201 {d : Nat} {l0 l1 l2 l3 : Option Value} {v2 v3 v4 : Value} {x y : Int32} {m : jmM} {Q : Option Value → jmM → Prop} : AW d 289 201 [l0, l1, l2, l3] [.int y, .int x, v2, v3, v4] m Q ↔ AW d 289 202 [l0, l1, l2, l3] [.int (x + y), v2, v3, v4] m Q := A_iadd hB_L_law dL_law_201
theorem dL_law_202 : decode cL_law 202 = .ok (.iaload, 1) := by decide +kernel
theorem tL_law_202 {d : Nat} {l0 l1 l2 l3 : Option Value} {v2 v3 : Value} {i : Int32} {a : Nat} {m : jmM} {Q : Option Value → jmM → Prop} : AW d 289 202 [l0, l1, l2, l3] [.int i, .ref a, v2, v3] m Q ↔ (((mS m a).1 = 20 ∨ a = jScr) ∧ jIx i (mS m a).2) ∧ AW d 289 203 [l0, l1, l2, l3] [.int (mI m a (jx i)), v2, v3] m Q := A_iaload hB_L_law dL_law_202
theorem dL_law_203 : decode cL_law 203 = .ok (.aload_n 0, 1) := by decide +kernel
theorem tL_law_203 {d : Nat} {l1 l2 l3 : Option Value} {v0 v1 v2 : Value} {x : Nat} {m : jmM} {Q : Option Value → jmM → Prop} : AW d 289 203 [some (.ref x), l1, l2, l3] [v0, v1, v2] m Q ↔ AW d 289 204 [some (.ref x), l1, l2, l3] [.ref x, v0, v1, v2] m Q := A_aload_n hB_L_law dL_law_203 rfl
theorem dL_law_204 : decode cL_law 204 = .ok (.iload_n 3, 1) := by decide +kernel
theorem tL_law_204 {d : Nat} {l0 l1 l2 : Option Value} {v0 v1 v2 v3 : Value} {x : Int32} {m : jmM} {Q : Option Value → jmM → Prop} : AW d 289 204 [l0, l1, l2, some (.int x)] [v0, v1, v2, v3] m Q ↔ AW d 289 205 [l0, l1, l2, some (.int x)] [.int x, v0, v1, v2, v3] m Q := A_iload_n hB_L_law dL_law_204 rfl
theorem dL_law_205 : decode cL_law 205 = .ok (.iconst 3, 1) := by decide +kernel
theorem tL_law_205 {d : Nat} {l0 l1 l2 l3 : Option Value} {v0 v1 v2 v3 v4 : Value} {m : jmM} {Q : Option Value → jmM → Prop} : AW d 289 205 [l0, l1, l2, l3] [v0, v1, v2, v3, v4] m Q ↔ AW d 289 206 [l0, l1, l2, l3] [.int 3, v0, v1, v2, v3, v4] m Q := A_iconst hB_L_law dL_law_205 (by decide)
theorem dL_law_206 : decode cL_law 206 = .ok (.iadd, 1) := by decide +kernel
theorem tL_law_206 {d : Nat} {l0 l1 l2 l3 : Option Value} {v2 v3 v4 v5 : Value} {x y : Int32} {m : jmM} {Q : Option Value → jmM → Prop} : AW d 289 206 [l0, l1, l2, l3] [.int y, .int x, v2, v3, v4, v5] m Q ↔ AW d 289 207 [l0, l1, l2, l3] [.int (x + y), v2, v3, v4, v5] m Q := A_iadd hB_L_law dL_law_206
theorem dL_law_207 : decode cL_law 207 = .ok (.iaload, 1) := by decide +kernel
theorem tL_law_207 {d : Nat} {l0 l1 l2 l3 : Option Value} {v2 v3 v4 : Value} {i : Int32} {a : Nat} {m : jmM} {Q : Option Value → jmM → Prop} : AW d 289 207 [l0, l1, l2, l3] [.int i, .ref a, v2, v3, v4] m Q ↔ (((mS m a).1 = 20 ∨ a = jScr) ∧ jIx i (mS m a).2) ∧ AW d 289 208 [l0, l1, l2, l3] [.int (mI m a (jx i)), v2, v3, v4] m Q := A_iaload hB_L_law dL_law_207
theorem dL_law_208 : decode cL_law 208 = .ok (.aload_n 0, 1) := by decide +kernel
theorem tL_law_208 {d : Nat} {l1 l2 l3 : Option Value} {v0 v1 v2 v3 : Value} {x : Nat} {m : jmM} {Q : Option Value → jmM → Prop} : AW d 289 208 [some (.ref x), l1, l2, l3] [v0, v1, v2, v3] m Q ↔ AW d 289 209 [some (.ref x), l1, l2, l3] [.ref x, v0, v1, v2, v3] m Q := A_aload_n hB_L_law dL_law_208 rfl
theorem dL_law_209 : decode cL_law 209 = .ok (.iload_n 3, 1) := by decide +kernel
theorem tL_law_209 {d : Nat} {l0 l1 l2 : Option Value} {v0 v1 v2 v3 v4 : Value} {x : Int32} {m : jmM} {Q : Option Value → jmM → Prop} : AW d 289 209 [l0, l1, l2, some (.int x)] [v0, v1, v2, v3, v4] m Q ↔ AW d 289 210 [l0, l1, l2, some (.int x)] [.int x, v0, v1, v2, v3, v4] m Q := A_iload_n hB_L_law dL_law_209 rfl
theorem dL_law_210 : decode cL_law 210 = .ok (.iconst 4, 1) := by decide +kernel
theorem tL_law_210 {d : Nat} {l0 l1 l2 l3 : Option Value} {v0 v1 v2 v3 v4 v5 : Value} {m : jmM} {Q : Option Value → jmM → Prop} : AW d 289 210 [l0, l1, l2, l3] [v0, v1, v2, v3, v4, v5] m Q ↔ AW d 289 211 [l0, l1, l2, l3] [.int 4, v0, v1, v2, v3, v4, v5] m Q := A_iconst hB_L_law dL_law_210 (by decide)
theorem dL_law_211 : decode cL_law 211 = .ok (.iadd, 1) := by decide +kernel
theorem tL_law_211 {d : Nat} {l0 l1 l2 l3 : Option Value} {v2 v3 v4 v5 v6 : Value} {x y : Int32} {m : jmM} {Q : Option Value → jmM → Prop} : AW d 289 211 [l0, l1, l2, l3] [.int y, .int x, v2, v3, v4, v5, v6] m Q ↔ AW d 289 212 [l0, l1, l2, l3] [.int (x + y), v2, v3, v4, v5, v6] m Q := A_iadd hB_L_law dL_law_211
theorem dL_law_212 : decode cL_law 212 = .ok (.iaload, 1) := by decide +kernel
theorem tL_law_212 {d : Nat} {l0 l1 l2 l3 : Option Value} {v2 v3 v4 v5 : Value} {i : Int32} {a : Nat} {m : jmM} {Q : Option Value → jmM → Prop} : AW d 289 212 [l0, l1, l2, l3] [.int i, .ref a, v2, v3, v4, v5] m Q ↔ (((mS m a).1 = 20 ∨ a = jScr) ∧ jIx i (mS m a).2) ∧ AW d 289 213 [l0, l1, l2, l3] [.int (mI m a (jx i)), v2, v3, v4, v5] m Q := A_iaload hB_L_law dL_law_212
theorem dL_law_213 : decode cL_law 213 = .ok (.aload_n 0, 1) := by decide +kernel
theorem tL_law_213 {d : Nat} {l1 l2 l3 : Option Value} {v0 v1 v2 v3 v4 : Value} {x : Nat} {m : jmM} {Q : Option Value → jmM → Prop} : AW d 289 213 [some (.ref x), l1, l2, l3] [v0, v1, v2, v3, v4] m Q ↔ AW d 289 214 [some (.ref x), l1, l2, l3] [.ref x, v0, v1, v2, v3, v4] m Q := A_aload_n hB_L_law dL_law_213 rfl
theorem dL_law_214 : decode cL_law 214 = .ok (.iload_n 3, 1) := by decide +kernel
theorem tL_law_214 {d : Nat} {l0 l1 l2 : Option Value} {v0 v1 v2 v3 v4 v5 : Value} {x : Int32} {m : jmM} {Q : Option Value → jmM → Prop} : AW d 289 214 [l0, l1, l2, some (.int x)] [v0, v1, v2, v3, v4, v5] m Q ↔ AW d 289 215 [l0, l1, l2, some (.int x)] [.int x, v0, v1, v2, v3, v4, v5] m Q := A_iload_n hB_L_law dL_law_214 rfl
theorem dL_law_215 : decode cL_law 215 = .ok (.iconst 5, 1) := by decide +kernel
theorem tL_law_215 {d : Nat} {l0 l1 l2 l3 : Option Value} {v0 v1 v2 v3 v4 v5 v6 : Value} {m : jmM} {Q : Option Value → jmM → Prop} : AW d 289 215 [l0, l1, l2, l3] [v0, v1, v2, v3, v4, v5, v6] m Q ↔ AW d 289 216 [l0, l1, l2, l3] [.int 5, v0, v1, v2, v3, v4, v5, v6] m Q := A_iconst hB_L_law dL_law_215 (by decide)
theorem dL_law_216 : decode cL_law 216 = .ok (.iadd, 1) := by decide +kernel
theorem tL_law_216 {d : Nat} {l0 l1 l2 l3 : Option Value} {v2 v3 v4 v5 v6 v7 : Value} {x y : Int32} {m : jmM} {Q : Option Value → jmM → Prop} : AW d 289 216 [l0, l1, l2, l3] [.int y, .int x, v2, v3, v4, v5, v6, v7] m Q ↔ AW d 289 217 [l0, l1, l2, l3] [.int (x + y), v2, v3, v4, v5, v6, v7] m Q := A_iadd hB_L_law dL_law_216
theorem dL_law_217 : decode cL_law 217 = .ok (.iaload, 1) := by decide +kernel
theorem tL_law_217 {d : Nat} {l0 l1 l2 l3 : Option Value} {v2 v3 v4 v5 v6 : Value} {i : Int32} {a : Nat} {m : jmM} {Q : Option Value → jmM → Prop} : AW d 289 217 [l0, l1, l2, l3] [.int i, .ref a, v2, v3, v4, v5, v6] m Q ↔ (((mS m a).1 = 20 ∨ a = jScr) ∧ jIx i (mS m a).2) ∧ AW d 289 218 [l0, l1, l2, l3] [.int (mI m a (jx i)), v2, v3, v4, v5, v6] m Q := A_iaload hB_L_law dL_law_217
theorem dL_law_218 : decode cL_law 218 = .ok (.invokevirtual 13, 3) := by decide +kernel
theorem tL_law_218 {d : Nat} {l0 l1 l2 l3 : Option Value} {y0 y1 y2 y3 y4 : Value} {a : Nat} {m : jmM} {Q : Option Value → jmM → Prop} : AW d 289 218 [l0, l1, l2, l3] [y0, y1, y2, y3, y4, .ref a] m Q ↔ (mS m a).1 = 11 ∧ CC d 141 [.ref a, y4, y3, y2, y1, y0] m (jK d 289 221 [l0, l1, l2, l3] [] Q) := A_callV hB_L_law dL_law_218 hO_L_law fS_13_13 ⟨Nat.le_of_ble_eq_true rfl, Nat.le_of_ble_eq_true rfl⟩ rfl rfl rfl
theorem dL_law_221 : decode cL_law 221 = .ok (.aload_n 2, 1) := by decide +kernel
theorem tL_law_221 {d : Nat} {l0 l1 l3 : Option Value} {v0 : Value} {x : Nat} {m : jmM} {Q : Option Value → jmM → Prop} : AW d 289 221 [l0, l1, some (.ref x), l3] [v0] m Q ↔ AW d 289 222 [l0, l1, some (.ref x), l3] [.ref x, v0] m Q := A_aload_n hB_L_law dL_law_221 rfl
theorem dL_law_222 : decode cL_law 222 = .ok (.aload_n 0, 1) := by decide +kernel
theorem tL_law_222 {d : Nat} {l1 l2 l3 : Option Value} {v0 v1 : Value} {x : Nat} {m : jmM} {Q : Option Value → jmM → Prop} : AW d 289 222 [some (.ref x), l1, l2, l3] [v0, v1] m Q ↔ AW d 289 223 [some (.ref x), l1, l2, l3] [.ref x, v0, v1] m Q := A_aload_n hB_L_law dL_law_222 rfl
theorem dL_law_223 : decode cL_law 223 = .ok (.iload_n 3, 1) := by decide +kernel
theorem tL_law_223 {d : Nat} {l0 l1 l2 : Option Value} {v0 v1 v2 : Value} {x : Int32} {m : jmM} {Q : Option Value → jmM → Prop} : AW d 289 223 [l0, l1, l2, some (.int x)] [v0, v1, v2] m Q ↔ AW d 289 224 [l0, l1, l2, some (.int x)] [.int x, v0, v1, v2] m Q := A_iload_n hB_L_law dL_law_223 rfl
theorem dL_law_224 : decode cL_law 224 = .ok (.iconst 1, 1) := by decide +kernel
theorem tL_law_224 {d : Nat} {l0 l1 l2 l3 : Option Value} {v0 v1 v2 v3 : Value} {m : jmM} {Q : Option Value → jmM → Prop} : AW d 289 224 [l0, l1, l2, l3] [v0, v1, v2, v3] m Q ↔ AW d 289 225 [l0, l1, l2, l3] [.int 1, v0, v1, v2, v3] m Q := A_iconst hB_L_law dL_law_224 (by decide)
theorem dL_law_225 : decode cL_law 225 = .ok (.iadd, 1) := by decide +kernel
theorem tL_law_225 {d : Nat} {l0 l1 l2 l3 : Option Value} {v2 v3 v4 : Value} {x y : Int32} {m : jmM} {Q : Option Value → jmM → Prop} : AW d 289 225 [l0, l1, l2, l3] [.int y, .int x, v2, v3, v4] m Q ↔ AW d 289 226 [l0, l1, l2, l3] [.int (x + y), v2, v3, v4] m Q := A_iadd hB_L_law dL_law_225
theorem dL_law_226 : decode cL_law 226 = .ok (.iaload, 1) := by decide +kernel
theorem tL_law_226 {d : Nat} {l0 l1 l2 l3 : Option Value} {v2 v3 : Value} {i : Int32} {a : Nat} {m : jmM} {Q : Option Value → jmM → Prop} : AW d 289 226 [l0, l1, l2, l3] [.int i, .ref a, v2, v3] m Q ↔ (((mS m a).1 = 20 ∨ a = jScr) ∧ jIx i (mS m a).2) ∧ AW d 289 227 [l0, l1, l2, l3] [.int (mI m a (jx i)), v2, v3] m Q := A_iaload hB_L_law dL_law_226
theorem dL_law_227 : decode cL_law 227 = .ok (.aload_n 0, 1) := by decide +kernel
theorem tL_law_227 {d : Nat} {l1 l2 l3 : Option Value} {v0 v1 v2 : Value} {x : Nat} {m : jmM} {Q : Option Value → jmM → Prop} : AW d 289 227 [some (.ref x), l1, l2, l3] [v0, v1, v2] m Q ↔ AW d 289 228 [some (.ref x), l1, l2, l3] [.ref x, v0, v1, v2] m Q := A_aload_n hB_L_law dL_law_227 rfl
theorem dL_law_228 : decode cL_law 228 = .ok (.iload_n 3, 1) := by decide +kernel
theorem tL_law_228 {d : Nat} {l0 l1 l2 : Option Value} {v0 v1 v2 v3 : Value} {x : Int32} {m : jmM} {Q : Option Value → jmM → Prop} : AW d 289 228 [l0, l1, l2, some (.int x)] [v0, v1, v2, v3] m Q ↔ AW d 289 229 [l0, l1, l2, some (.int x)] [.int x, v0, v1, v2, v3] m Q := A_iload_n hB_L_law dL_law_228 rfl
theorem dL_law_229 : decode cL_law 229 = .ok (.iconst 2, 1) := by decide +kernel
theorem tL_law_229 {d : Nat} {l0 l1 l2 l3 : Option Value} {v0 v1 v2 v3 v4 : Value} {m : jmM} {Q : Option Value → jmM → Prop} : AW d 289 229 [l0, l1, l2, l3] [v0, v1, v2, v3, v4] m Q ↔ AW d 289 230 [l0, l1, l2, l3] [.int 2, v0, v1, v2, v3, v4] m Q := A_iconst hB_L_law dL_law_229 (by decide)
theorem dL_law_230 : decode cL_law 230 = .ok (.iadd, 1) := by decide +kernel
theorem tL_law_230 {d : Nat} {l0 l1 l2 l3 : Option Value} {v2 v3 v4 v5 : Value} {x y : Int32} {m : jmM} {Q : Option Value → jmM → Prop} : AW d 289 230 [l0, l1, l2, l3] [.int y, .int x, v2, v3, v4, v5] m Q ↔ AW d 289 231 [l0, l1, l2, l3] [.int (x + y), v2, v3, v4, v5] m Q := A_iadd hB_L_law dL_law_230
theorem dL_law_231 : decode cL_law 231 = .ok (.iaload, 1) := by decide +kernel
theorem tL_law_231 {d : Nat} {l0 l1 l2 l3 : Option Value} {v2 v3 v4 : Value} {i : Int32} {a : Nat} {m : jmM} {Q : Option Value → jmM → Prop} : AW d 289 231 [l0, l1, l2, l3] [.int i, .ref a, v2, v3, v4] m Q ↔ (((mS m a).1 = 20 ∨ a = jScr) ∧ jIx i (mS m a).2) ∧ AW d 289 232 [l0, l1, l2, l3] [.int (mI m a (jx i)), v2, v3, v4] m Q := A_iaload hB_L_law dL_law_231
theorem dL_law_232 : decode cL_law 232 = .ok (.aload_n 0, 1) := by decide +kernel
theorem tL_law_232 {d : Nat} {l1 l2 l3 : Option Value} {v0 v1 v2 v3 : Value} {x : Nat} {m : jmM} {Q : Option Value → jmM → Prop} : AW d 289 232 [some (.ref x), l1, l2, l3] [v0, v1, v2, v3] m Q ↔ AW d 289 233 [some (.ref x), l1, l2, l3] [.ref x, v0, v1, v2, v3] m Q := A_aload_n hB_L_law dL_law_232 rfl
theorem dL_law_233 : decode cL_law 233 = .ok (.iload_n 3, 1) := by decide +kernel
theorem tL_law_233 {d : Nat} {l0 l1 l2 : Option Value} {v0 v1 v2 v3 v4 : Value} {x : Int32} {m : jmM} {Q : Option Value → jmM → Prop} : AW d 289 233 [l0, l1, l2, some (.int x)] [v0, v1, v2, v3, v4] m Q ↔ AW d 289 234 [l0, l1, l2, some (.int x)] [.int x, v0, v1, v2, v3, v4] m Q := A_iload_n hB_L_law dL_law_233 rfl
theorem dL_law_234 : decode cL_law 234 = .ok (.iconst 3, 1) := by decide +kernel
theorem tL_law_234 {d : Nat} {l0 l1 l2 l3 : Option Value} {v0 v1 v2 v3 v4 v5 : Value} {m : jmM} {Q : Option Value → jmM → Prop} : AW d 289 234 [l0, l1, l2, l3] [v0, v1, v2, v3, v4, v5] m Q ↔ AW d 289 235 [l0, l1, l2, l3] [.int 3, v0, v1, v2, v3, v4, v5] m Q := A_iconst hB_L_law dL_law_234 (by decide)
theorem dL_law_235 : decode cL_law 235 = .ok (.iadd, 1) := by decide +kernel
theorem tL_law_235 {d : Nat} {l0 l1 l2 l3 : Option Value} {v2 v3 v4 v5 v6 : Value} {x y : Int32} {m : jmM} {Q : Option Value → jmM → Prop} : AW d 289 235 [l0, l1, l2, l3] [.int y, .int x, v2, v3, v4, v5, v6] m Q ↔ AW d 289 236 [l0, l1, l2, l3] [.int (x + y), v2, v3, v4, v5, v6] m Q := A_iadd hB_L_law dL_law_235
theorem dL_law_236 : decode cL_law 236 = .ok (.iaload, 1) := by decide +kernel
theorem tL_law_236 {d : Nat} {l0 l1 l2 l3 : Option Value} {v2 v3 v4 v5 : Value} {i : Int32} {a : Nat} {m : jmM} {Q : Option Value → jmM → Prop} : AW d 289 236 [l0, l1, l2, l3] [.int i, .ref a, v2, v3, v4, v5] m Q ↔ (((mS m a).1 = 20 ∨ a = jScr) ∧ jIx i (mS m a).2) ∧ AW d 289 237 [l0, l1, l2, l3] [.int (mI m a (jx i)), v2, v3, v4, v5] m Q := A_iaload hB_L_law dL_law_236
theorem dL_law_237 : decode cL_law 237 = .ok (.aload_n 0, 1) := by decide +kernel
theorem tL_law_237 {d : Nat} {l1 l2 l3 : Option Value} {v0 v1 v2 v3 v4 : Value} {x : Nat} {m : jmM} {Q : Option Value → jmM → Prop} : AW d 289 237 [some (.ref x), l1, l2, l3] [v0, v1, v2, v3, v4] m Q ↔ AW d 289 238 [some (.ref x), l1, l2, l3] [.ref x, v0, v1, v2, v3, v4] m Q := A_aload_n hB_L_law dL_law_237 rfl
theorem dL_law_238 : decode cL_law 238 = .ok (.iload_n 3, 1) := by decide +kernel
theorem tL_law_238 {d : Nat} {l0 l1 l2 : Option Value} {v0 v1 v2 v3 v4 v5 : Value} {x : Int32} {m : jmM} {Q : Option Value → jmM → Prop} : AW d 289 238 [l0, l1, l2, some (.int x)] [v0, v1, v2, v3, v4, v5] m Q ↔ AW d 289 239 [l0, l1, l2, some (.int x)] [.int x, v0, v1, v2, v3, v4, v5] m Q := A_iload_n hB_L_law dL_law_238 rfl
theorem dL_law_239 : decode cL_law 239 = .ok (.iconst 4, 1) := by decide +kernel
theorem tL_law_239 {d : Nat} {l0 l1 l2 l3 : Option Value} {v0 v1 v2 v3 v4 v5 v6 : Value} {m : jmM} {Q : Option Value → jmM → Prop} : AW d 289 239 [l0, l1, l2, l3] [v0, v1, v2, v3, v4, v5, v6] m Q ↔ AW d 289 240 [l0, l1, l2, l3] [.int 4, v0, v1, v2, v3, v4, v5, v6] m Q := A_iconst hB_L_law dL_law_239 (by decide)
theorem dL_law_240 : decode cL_law 240 = .ok (.iadd, 1) := by decide +kernel
theorem tL_law_240 {d : Nat} {l0 l1 l2 l3 : Option Value} {v2 v3 v4 v5 v6 v7 : Value} {x y : Int32} {m : jmM} {Q : Option Value → jmM → Prop} : AW d 289 240 [l0, l1, l2, l3] [.int y, .int x, v2, v3, v4, v5, v6, v7] m Q ↔ AW d 289 241 [l0, l1, l2, l3] [.int (x + y), v2, v3, v4, v5, v6, v7] m Q := A_iadd hB_L_law dL_law_240
theorem dL_law_241 : decode cL_law 241 = .ok (.iaload, 1) := by decide +kernel
theorem tL_law_241 {d : Nat} {l0 l1 l2 l3 : Option Value} {v2 v3 v4 v5 v6 : Value} {i : Int32} {a : Nat} {m : jmM} {Q : Option Value → jmM → Prop} : AW d 289 241 [l0, l1, l2, l3] [.int i, .ref a, v2, v3, v4, v5, v6] m Q ↔ (((mS m a).1 = 20 ∨ a = jScr) ∧ jIx i (mS m a).2) ∧ AW d 289 242 [l0, l1, l2, l3] [.int (mI m a (jx i)), v2, v3, v4, v5, v6] m Q := A_iaload hB_L_law dL_law_241
theorem dL_law_242 : decode cL_law 242 = .ok (.aload_n 0, 1) := by decide +kernel
theorem tL_law_242 {d : Nat} {l1 l2 l3 : Option Value} {v0 v1 v2 v3 v4 v5 : Value} {x : Nat} {m : jmM} {Q : Option Value → jmM → Prop} : AW d 289 242 [some (.ref x), l1, l2, l3] [v0, v1, v2, v3, v4, v5] m Q ↔ AW d 289 243 [some (.ref x), l1, l2, l3] [.ref x, v0, v1, v2, v3, v4, v5] m Q := A_aload_n hB_L_law dL_law_242 rfl
theorem dL_law_243 : decode cL_law 243 = .ok (.iload_n 3, 1) := by decide +kernel
theorem tL_law_243 {d : Nat} {l0 l1 l2 : Option Value} {v0 v1 v2 v3 v4 v5 v6 : Value} {x : Int32} {m : jmM} {Q : Option Value → jmM → Prop} : AW d 289 243 [l0, l1, l2, some (.int x)] [v0, v1, v2, v3, v4, v5, v6] m Q ↔ AW d 289 244 [l0, l1, l2, some (.int x)] [.int x, v0, v1, v2, v3, v4, v5, v6] m Q := A_iload_n hB_L_law dL_law_243 rfl
theorem dL_law_244 : decode cL_law 244 = .ok (.iconst 5, 1) := by decide +kernel
theorem tL_law_244 {d : Nat} {l0 l1 l2 l3 : Option Value} {v0 v1 v2 v3 v4 v5 v6 v7 : Value} {m : jmM} {Q : Option Value → jmM → Prop} : AW d 289 244 [l0, l1, l2, l3] [v0, v1, v2, v3, v4, v5, v6, v7] m Q ↔ AW d 289 245 [l0, l1, l2, l3] [.int 5, v0, v1, v2, v3, v4, v5, v6, v7] m Q := A_iconst hB_L_law dL_law_244 (by decide)
theorem dL_law_245 : decode cL_law 245 = .ok (.iadd, 1) := by decide +kernel
theorem tL_law_245 {d : Nat} {l0 l1 l2 l3 : Option Value} {v2 v3 v4 v5 v6 v7 v8 : Value} {x y : Int32} {m : jmM} {Q : Option Value → jmM → Prop} : AW d 289 245 [l0, l1, l2, l3] [.int y, .int x, v2, v3, v4, v5, v6, v7, v8] m Q ↔ AW d 289 246 [l0, l1, l2, l3] [.int (x + y), v2, v3, v4, v5, v6, v7, v8] m Q := A_iadd hB_L_law dL_law_245
theorem dL_law_246 : decode cL_law 246 = .ok (.iaload, 1) := by decide +kernel
theorem tL_law_246 {d : Nat} {l0 l1 l2 l3 : Option Value} {v2 v3 v4 v5 v6 v7 : Value} {i : Int32} {a : Nat} {m : jmM} {Q : Option Value → jmM → Prop} : AW d 289 246 [l0, l1, l2, l3] [.int i, .ref a, v2, v3, v4, v5, v6, v7] m Q ↔ (((mS m a).1 = 20 ∨ a = jScr) ∧ jIx i (mS m a).2) ∧ AW d 289 247 [l0, l1, l2, l3] [.int (mI m a (jx i)), v2, v3, v4, v5, v6, v7] m Q := A_iaload hB_L_law dL_law_246
theorem dL_law_247 : decode cL_law 247 = .ok (.invokevirtual 17, 3) := by decide +kernel
theorem tL_law_247 {d : Nat} {l0 l1 l2 l3 : Option Value} {v6 : Value} {y0 y1 y2 y3 y4 : Value} {a : Nat} {m : jmM} {Q : Option Value → jmM → Prop} : AW d 289 247 [l0, l1, l2, l3] [y0, y1, y2, y3, y4, .ref a, v6] m Q ↔ (mS m a).1 = 12 ∧ CC d 192 [.ref a, y4, y3, y2, y1, y0] m (jK d 289 250 [l0, l1, l2, l3] [v6] Q) := A_callV hB_L_law dL_law_247 hO_L_law fS_13_17 ⟨Nat.le_of_ble_eq_true rfl, Nat.le_of_ble_eq_true rfl⟩ rfl rfl rfl
theorem dL_law_250 : decode cL_law 250 = .ok (.if_icmp .eq 1172, 3) := by decide +kernel
theorem tL_law_250 {d : Nat} {l0 l1 l2 l3 : Option Value} {x y : Int32} {m : jmM} {Q : Option Value → jmM → Prop} : AW d 289 250 [l0, l1, l2, l3] [.int y, .int x] m Q ↔ if x = y then AW d 289 1422 [l0, l1, l2, l3] [] m Q else AW d 289 253 [l0, l1, l2, l3] [] m Q := A_icmp_eq hB_L_law dL_law_250 (by decide)
theorem dL_law_253 : decode cL_law 253 = .ok (.iconst 0, 1) := by decide +kernel
theorem tL_law_253 {d : Nat} {l0 l1 l2 l3 : Option Value} {m : jmM} {Q : Option Value → jmM → Prop} : AW d 289 253 [l0, l1, l2, l3] [] m Q ↔ AW d 289 254 [l0, l1, l2, l3] [.int 0] m Q := A_iconst hB_L_law dL_law_253 (by decide)
theorem dL_law_254 : decode cL_law 254 = .ok (.ireturn, 1) := by decide +kernel
theorem tL_law_254 {d : Nat} {l0 l1 l2 l3 : Option Value} {x : Int32} {m : jmM} {Q : Option Value → jmM → Prop} : AW d 289 254 [l0, l1, l2, l3] [.int x] m Q ↔ jBool x ∧ Q (some (.int x)) m := A_zreturn hB_L_law dL_law_254 hR_L_law
theorem dL_law_255 : decode cL_law 255 = .ok (.aload_n 1, 1) := by decide +kernel
theorem tL_law_255 {d : Nat} {l0 l2 l3 : Option Value} {x : Nat} {m : jmM} {Q : Option Value → jmM → Prop} : AW d 289 255 [l0, some (.ref x), l2, l3] [] m Q ↔ AW d 289 256 [l0, some (.ref x), l2, l3] [.ref x] m Q := A_aload_n hB_L_law dL_law_255 rfl
theorem dL_law_256 : decode cL_law 256 = .ok (.aload_n 0, 1) := by decide +kernel
theorem tL_law_256 {d : Nat} {l1 l2 l3 : Option Value} {v0 : Value} {x : Nat} {m : jmM} {Q : Option Value → jmM → Prop} : AW d 289 256 [some (.ref x), l1, l2, l3] [v0] m Q ↔ AW d 289 257 [some (.ref x), l1, l2, l3] [.ref x, v0] m Q := A_aload_n hB_L_law dL_law_256 rfl
theorem dL_law_257 : decode cL_law 257 = .ok (.iload_n 3, 1) := by decide +kernel
theorem tL_law_257 {d : Nat} {l0 l1 l2 : Option Value} {v0 v1 : Value} {x : Int32} {m : jmM} {Q : Option Value → jmM → Prop} : AW d 289 257 [l0, l1, l2, some (.int x)] [v0, v1] m Q ↔ AW d 289 258 [l0, l1, l2, some (.int x)] [.int x, v0, v1] m Q := A_iload_n hB_L_law dL_law_257 rfl
theorem dL_law_258 : decode cL_law 258 = .ok (.iconst 1, 1) := by decide +kernel
theorem tL_law_258 {d : Nat} {l0 l1 l2 l3 : Option Value} {v0 v1 v2 : Value} {m : jmM} {Q : Option Value → jmM → Prop} : AW d 289 258 [l0, l1, l2, l3] [v0, v1, v2] m Q ↔ AW d 289 259 [l0, l1, l2, l3] [.int 1, v0, v1, v2] m Q := A_iconst hB_L_law dL_law_258 (by decide)
theorem dL_law_259 : decode cL_law 259 = .ok (.iadd, 1) := by decide +kernel
theorem tL_law_259 {d : Nat} {l0 l1 l2 l3 : Option Value} {v2 v3 : Value} {x y : Int32} {m : jmM} {Q : Option Value → jmM → Prop} : AW d 289 259 [l0, l1, l2, l3] [.int y, .int x, v2, v3] m Q ↔ AW d 289 260 [l0, l1, l2, l3] [.int (x + y), v2, v3] m Q := A_iadd hB_L_law dL_law_259
theorem dL_law_260 : decode cL_law 260 = .ok (.iaload, 1) := by decide +kernel
theorem tL_law_260 {d : Nat} {l0 l1 l2 l3 : Option Value} {v2 : Value} {i : Int32} {a : Nat} {m : jmM} {Q : Option Value → jmM → Prop} : AW d 289 260 [l0, l1, l2, l3] [.int i, .ref a, v2] m Q ↔ (((mS m a).1 = 20 ∨ a = jScr) ∧ jIx i (mS m a).2) ∧ AW d 289 261 [l0, l1, l2, l3] [.int (mI m a (jx i)), v2] m Q := A_iaload hB_L_law dL_law_260
theorem dL_law_261 : decode cL_law 261 = .ok (.invokevirtual 18, 3) := by decide +kernel
theorem tL_law_261 {d : Nat} {l0 l1 l2 l3 : Option Value} {y0 : Value} {a : Nat} {m : jmM} {Q : Option Value → jmM → Prop} : AW d 289 261 [l0, l1, l2, l3] [y0, .ref a] m Q ↔ (mS m a).1 = 11 ∧ CC d 142 [.ref a, y0] m (jK d 289 264 [l0, l1, l2, l3] [] Q) := A_callV hB_L_law dL_law_261 hO_L_law fS_13_18 ⟨Nat.le_of_ble_eq_true rfl, Nat.le_of_ble_eq_true rfl⟩ rfl rfl rfl
theorem dL_law_264 : decode cL_law 264 = .ok (.aload_n 2, 1) := by decide +kernel
theorem tL_law_264 {d : Nat} {l0 l1 l3 : Option Value} {v0 : Value} {x : Nat} {m : jmM} {Q : Option Value → jmM → Prop} : AW d 289 264 [l0, l1, some (.ref x), l3] [v0] m Q ↔ AW d 289 265 [l0, l1, some (.ref x), l3] [.ref x, v0] m Q := A_aload_n hB_L_law dL_law_264 rfl
theorem dL_law_265 : decode cL_law 265 = .ok (.aload_n 0, 1) := by decide +kernel
theorem tL_law_265 {d : Nat} {l1 l2 l3 : Option Value} {v0 v1 : Value} {x : Nat} {m : jmM} {Q : Option Value → jmM → Prop} : AW d 289 265 [some (.ref x), l1, l2, l3] [v0, v1] m Q ↔ AW d 289 266 [some (.ref x), l1, l2, l3] [.ref x, v0, v1] m Q := A_aload_n hB_L_law dL_law_265 rfl
theorem dL_law_266 : decode cL_law 266 = .ok (.iload_n 3, 1) := by decide +kernel
theorem tL_law_266 {d : Nat} {l0 l1 l2 : Option Value} {v0 v1 v2 : Value} {x : Int32} {m : jmM} {Q : Option Value → jmM → Prop} : AW d 289 266 [l0, l1, l2, some (.int x)] [v0, v1, v2] m Q ↔ AW d 289 267 [l0, l1, l2, some (.int x)] [.int x, v0, v1, v2] m Q := A_iload_n hB_L_law dL_law_266 rfl
theorem dL_law_267 : decode cL_law 267 = .ok (.iconst 1, 1) := by decide +kernel
theorem tL_law_267 {d : Nat} {l0 l1 l2 l3 : Option Value} {v0 v1 v2 v3 : Value} {m : jmM} {Q : Option Value → jmM → Prop} : AW d 289 267 [l0, l1, l2, l3] [v0, v1, v2, v3] m Q ↔ AW d 289 268 [l0, l1, l2, l3] [.int 1, v0, v1, v2, v3] m Q := A_iconst hB_L_law dL_law_267 (by decide)
theorem dL_law_268 : decode cL_law 268 = .ok (.iadd, 1) := by decide +kernel
theorem tL_law_268 {d : Nat} {l0 l1 l2 l3 : Option Value} {v2 v3 v4 : Value} {x y : Int32} {m : jmM} {Q : Option Value → jmM → Prop} : AW d 289 268 [l0, l1, l2, l3] [.int y, .int x, v2, v3, v4] m Q ↔ AW d 289 269 [l0, l1, l2, l3] [.int (x + y), v2, v3, v4] m Q := A_iadd hB_L_law dL_law_268
theorem dL_law_269 : decode cL_law 269 = .ok (.iaload, 1) := by decide +kernel
theorem tL_law_269 {d : Nat} {l0 l1 l2 l3 : Option Value} {v2 v3 : Value} {i : Int32} {a : Nat} {m : jmM} {Q : Option Value → jmM → Prop} : AW d 289 269 [l0, l1, l2, l3] [.int i, .ref a, v2, v3] m Q ↔ (((mS m a).1 = 20 ∨ a = jScr) ∧ jIx i (mS m a).2) ∧ AW d 289 270 [l0, l1, l2, l3] [.int (mI m a (jx i)), v2, v3] m Q := A_iaload hB_L_law dL_law_269
theorem dL_law_270 : decode cL_law 270 = .ok (.invokevirtual 22, 3) := by decide +kernel
theorem tL_law_270 {d : Nat} {l0 l1 l2 l3 : Option Value} {v2 : Value} {y0 : Value} {a : Nat} {m : jmM} {Q : Option Value → jmM → Prop} : AW d 289 270 [l0, l1, l2, l3] [y0, .ref a, v2] m Q ↔ (mS m a).1 = 12 ∧ CC d 193 [.ref a, y0] m (jK d 289 273 [l0, l1, l2, l3] [v2] Q) := A_callV hB_L_law dL_law_270 hO_L_law fS_13_22 ⟨Nat.le_of_ble_eq_true rfl, Nat.le_of_ble_eq_true rfl⟩ rfl rfl rfl
theorem dL_law_273 : decode cL_law 273 = .ok (.if_icmp .eq 1149, 3) := by decide +kernel
theorem tL_law_273 {d : Nat} {l0 l1 l2 l3 : Option Value} {x y : Int32} {m : jmM} {Q : Option Value → jmM → Prop} : AW d 289 273 [l0, l1, l2, l3] [.int y, .int x] m Q ↔ if x = y then AW d 289 1422 [l0, l1, l2, l3] [] m Q else AW d 289 276 [l0, l1, l2, l3] [] m Q := A_icmp_eq hB_L_law dL_law_273 (by decide)
theorem dL_law_276 : decode cL_law 276 = .ok (.iconst 0, 1) := by decide +kernel
theorem tL_law_276 {d : Nat} {l0 l1 l2 l3 : Option Value} {m : jmM} {Q : Option Value → jmM → Prop} : AW d 289 276 [l0, l1, l2, l3] [] m Q ↔ AW d 289 277 [l0, l1, l2, l3] [.int 0] m Q := A_iconst hB_L_law dL_law_276 (by decide)
theorem dL_law_277 : decode cL_law 277 = .ok (.ireturn, 1) := by decide +kernel
theorem tL_law_277 {d : Nat} {l0 l1 l2 l3 : Option Value} {x : Int32} {m : jmM} {Q : Option Value → jmM → Prop} : AW d 289 277 [l0, l1, l2, l3] [.int x] m Q ↔ jBool x ∧ Q (some (.int x)) m := A_zreturn hB_L_law dL_law_277 hR_L_law
theorem dL_law_278 : decode cL_law 278 = .ok (.aload_n 1, 1) := by decide +kernel
theorem tL_law_278 {d : Nat} {l0 l2 l3 : Option Value} {x : Nat} {m : jmM} {Q : Option Value → jmM → Prop} : AW d 289 278 [l0, some (.ref x), l2, l3] [] m Q ↔ AW d 289 279 [l0, some (.ref x), l2, l3] [.ref x] m Q := A_aload_n hB_L_law dL_law_278 rfl
theorem dL_law_279 : decode cL_law 279 = .ok (.invokevirtual 23, 3) := by decide +kernel
theorem tL_law_279 {d : Nat} {l0 l1 l2 l3 : Option Value} {a : Nat} {m : jmM} {Q : Option Value → jmM → Prop} : AW d 289 279 [l0, l1, l2, l3] [.ref a] m Q ↔ (mS m a).1 = 11 ∧ CC d 143 [.ref a] m (jK d 289 282 [l0, l1, l2, l3] [] Q) := A_callV hB_L_law dL_law_279 hO_L_law fS_13_23 ⟨Nat.le_of_ble_eq_true rfl, Nat.le_of_ble_eq_true rfl⟩ rfl rfl rfl
theorem dL_law_282 : decode cL_law 282 = .ok (.aload_n 2, 1) := by decide +kernel
theorem tL_law_282 {d : Nat} {l0 l1 l3 : Option Value} {v0 : Value} {x : Nat} {m : jmM} {Q : Option Value → jmM → Prop} : AW d 289 282 [l0, l1, some (.ref x), l3] [v0] m Q ↔ AW d 289 283 [l0, l1, some (.ref x), l3] [.ref x, v0] m Q := A_aload_n hB_L_law dL_law_282 rfl
theorem dL_law_283 : decode cL_law 283 = .ok (.invokevirtual 27, 3) := by decide +kernel
theorem tL_law_283 {d : Nat} {l0 l1 l2 l3 : Option Value} {v1 : Value} {a : Nat} {m : jmM} {Q : Option Value → jmM → Prop} : AW d 289 283 [l0, l1, l2, l3] [.ref a, v1] m Q ↔ (mS m a).1 = 12 ∧ CC d 221 [.ref a] m (jK d 289 286 [l0, l1, l2, l3] [v1] Q) := A_callV hB_L_law dL_law_283 hO_L_law fS_13_27 ⟨Nat.le_of_ble_eq_true rfl, Nat.le_of_ble_eq_true rfl⟩ rfl rfl rfl
theorem dL_law_286 : decode cL_law 286 = .ok (.if_icmp .eq 1136, 3) := by decide +kernel
theorem tL_law_286 {d : Nat} {l0 l1 l2 l3 : Option Value} {x y : Int32} {m : jmM} {Q : Option Value → jmM → Prop} : AW d 289 286 [l0, l1, l2, l3] [.int y, .int x] m Q ↔ if x = y then AW d 289 1422 [l0, l1, l2, l3] [] m Q else AW d 289 289 [l0, l1, l2, l3] [] m Q := A_icmp_eq hB_L_law dL_law_286 (by decide)
theorem dL_law_289 : decode cL_law 289 = .ok (.iconst 0, 1) := by decide +kernel
theorem tL_law_289 {d : Nat} {l0 l1 l2 l3 : Option Value} {m : jmM} {Q : Option Value → jmM → Prop} : AW d 289 289 [l0, l1, l2, l3] [] m Q ↔ AW d 289 290 [l0, l1, l2, l3] [.int 0] m Q := A_iconst hB_L_law dL_law_289 (by decide)
theorem dL_law_290 : decode cL_law 290 = .ok (.ireturn, 1) := by decide +kernel
theorem tL_law_290 {d : Nat} {l0 l1 l2 l3 : Option Value} {x : Int32} {m : jmM} {Q : Option Value → jmM → Prop} : AW d 289 290 [l0, l1, l2, l3] [.int x] m Q ↔ jBool x ∧ Q (some (.int x)) m := A_zreturn hB_L_law dL_law_290 hR_L_law
theorem dL_law_291 : decode cL_law 291 = .ok (.aload_n 1, 1) := by decide +kernel
theorem tL_law_291 {d : Nat} {l0 l2 l3 : Option Value} {x : Nat} {m : jmM} {Q : Option Value → jmM → Prop} : AW d 289 291 [l0, some (.ref x), l2, l3] [] m Q ↔ AW d 289 292 [l0, some (.ref x), l2, l3] [.ref x] m Q := A_aload_n hB_L_law dL_law_291 rfl
theorem dL_law_292 : decode cL_law 292 = .ok (.invokevirtual 28, 3) := by decide +kernel
theorem tL_law_292 {d : Nat} {l0 l1 l2 l3 : Option Value} {a : Nat} {m : jmM} {Q : Option Value → jmM → Prop} : AW d 289 292 [l0, l1, l2, l3] [.ref a] m Q ↔ (mS m a).1 = 11 ∧ CC d 144 [.ref a] m (jK d 289 295 [l0, l1, l2, l3] [] Q) := A_callV hB_L_law dL_law_292 hO_L_law fS_13_28 ⟨Nat.le_of_ble_eq_true rfl, Nat.le_of_ble_eq_true rfl⟩ rfl rfl rfl
theorem dL_law_295 : decode cL_law 295 = .ok (.aload_n 2, 1) := by decide +kernel
theorem tL_law_295 {d : Nat} {l0 l1 l3 : Option Value} {v0 : Value} {x : Nat} {m : jmM} {Q : Option Value → jmM → Prop} : AW d 289 295 [l0, l1, some (.ref x), l3] [v0] m Q ↔ AW d 289 296 [l0, l1, some (.ref x), l3] [.ref x, v0] m Q := A_aload_n hB_L_law dL_law_295 rfl
theorem dL_law_296 : decode cL_law 296 = .ok (.invokevirtual 31, 3) := by decide +kernel
theorem tL_law_296 {d : Nat} {l0 l1 l2 l3 : Option Value} {v1 : Value} {a : Nat} {m : jmM} {Q : Option Value → jmM → Prop} : AW d 289 296 [l0, l1, l2, l3] [.ref a, v1] m Q ↔ (mS m a).1 = 12 ∧ CC d 222 [.ref a] m (jK d 289 299 [l0, l1, l2, l3] [v1] Q) := A_callV hB_L_law dL_law_296 hO_L_law fS_13_31 ⟨Nat.le_of_ble_eq_true rfl, Nat.le_of_ble_eq_true rfl⟩ rfl rfl rfl
theorem dL_law_299 : decode cL_law 299 = .ok (.if_icmp .eq 1123, 3) := by decide +kernel
theorem tL_law_299 {d : Nat} {l0 l1 l2 l3 : Option Value} {x y : Int32} {m : jmM} {Q : Option Value → jmM → Prop} : AW d 289 299 [l0, l1, l2, l3] [.int y, .int x] m Q ↔ if x = y then AW d 289 1422 [l0, l1, l2, l3] [] m Q else AW d 289 302 [l0, l1, l2, l3] [] m Q := A_icmp_eq hB_L_law dL_law_299 (by decide)
theorem dL_law_302 : decode cL_law 302 = .ok (.iconst 0, 1) := by decide +kernel
theorem tL_law_302 {d : Nat} {l0 l1 l2 l3 : Option Value} {m : jmM} {Q : Option Value → jmM → Prop} : AW d 289 302 [l0, l1, l2, l3] [] m Q ↔ AW d 289 303 [l0, l1, l2, l3] [.int 0] m Q := A_iconst hB_L_law dL_law_302 (by decide)
theorem dL_law_303 : decode cL_law 303 = .ok (.ireturn, 1) := by decide +kernel
theorem tL_law_303 {d : Nat} {l0 l1 l2 l3 : Option Value} {x : Int32} {m : jmM} {Q : Option Value → jmM → Prop} : AW d 289 303 [l0, l1, l2, l3] [.int x] m Q ↔ jBool x ∧ Q (some (.int x)) m := A_zreturn hB_L_law dL_law_303 hR_L_law
theorem dL_law_304 : decode cL_law 304 = .ok (.aload_n 1, 1) := by decide +kernel
theorem tL_law_304 {d : Nat} {l0 l2 l3 : Option Value} {x : Nat} {m : jmM} {Q : Option Value → jmM → Prop} : AW d 289 304 [l0, some (.ref x), l2, l3] [] m Q ↔ AW d 289 305 [l0, some (.ref x), l2, l3] [.ref x] m Q := A_aload_n hB_L_law dL_law_304 rfl
theorem dL_law_305 : decode cL_law 305 = .ok (.aload_n 0, 1) := by decide +kernel
theorem tL_law_305 {d : Nat} {l1 l2 l3 : Option Value} {v0 : Value} {x : Nat} {m : jmM} {Q : Option Value → jmM → Prop} : AW d 289 305 [some (.ref x), l1, l2, l3] [v0] m Q ↔ AW d 289 306 [some (.ref x), l1, l2, l3] [.ref x, v0] m Q := A_aload_n hB_L_law dL_law_305 rfl
theorem dL_law_306 : decode cL_law 306 = .ok (.iload_n 3, 1) := by decide +kernel
theorem tL_law_306 {d : Nat} {l0 l1 l2 : Option Value} {v0 v1 : Value} {x : Int32} {m : jmM} {Q : Option Value → jmM → Prop} : AW d 289 306 [l0, l1, l2, some (.int x)] [v0, v1] m Q ↔ AW d 289 307 [l0, l1, l2, some (.int x)] [.int x, v0, v1] m Q := A_iload_n hB_L_law dL_law_306 rfl
theorem dL_law_307 : decode cL_law 307 = .ok (.iconst 1, 1) := by decide +kernel
theorem tL_law_307 {d : Nat} {l0 l1 l2 l3 : Option Value} {v0 v1 v2 : Value} {m : jmM} {Q : Option Value → jmM → Prop} : AW d 289 307 [l0, l1, l2, l3] [v0, v1, v2] m Q ↔ AW d 289 308 [l0, l1, l2, l3] [.int 1, v0, v1, v2] m Q := A_iconst hB_L_law dL_law_307 (by decide)
theorem dL_law_308 : decode cL_law 308 = .ok (.iadd, 1) := by decide +kernel
theorem tL_law_308 {d : Nat} {l0 l1 l2 l3 : Option Value} {v2 v3 : Value} {x y : Int32} {m : jmM} {Q : Option Value → jmM → Prop} : AW d 289 308 [l0, l1, l2, l3] [.int y, .int x, v2, v3] m Q ↔ AW d 289 309 [l0, l1, l2, l3] [.int (x + y), v2, v3] m Q := A_iadd hB_L_law dL_law_308
theorem dL_law_309 : decode cL_law 309 = .ok (.iaload, 1) := by decide +kernel
theorem tL_law_309 {d : Nat} {l0 l1 l2 l3 : Option Value} {v2 : Value} {i : Int32} {a : Nat} {m : jmM} {Q : Option Value → jmM → Prop} : AW d 289 309 [l0, l1, l2, l3] [.int i, .ref a, v2] m Q ↔ (((mS m a).1 = 20 ∨ a = jScr) ∧ jIx i (mS m a).2) ∧ AW d 289 310 [l0, l1, l2, l3] [.int (mI m a (jx i)), v2] m Q := A_iaload hB_L_law dL_law_309
theorem dL_law_310 : decode cL_law 310 = .ok (.aload_n 0, 1) := by decide +kernel
theorem tL_law_310 {d : Nat} {l1 l2 l3 : Option Value} {v0 v1 : Value} {x : Nat} {m : jmM} {Q : Option Value → jmM → Prop} : AW d 289 310 [some (.ref x), l1, l2, l3] [v0, v1] m Q ↔ AW d 289 311 [some (.ref x), l1, l2, l3] [.ref x, v0, v1] m Q := A_aload_n hB_L_law dL_law_310 rfl
theorem dL_law_311 : decode cL_law 311 = .ok (.iload_n 3, 1) := by decide +kernel
theorem tL_law_311 {d : Nat} {l0 l1 l2 : Option Value} {v0 v1 v2 : Value} {x : Int32} {m : jmM} {Q : Option Value → jmM → Prop} : AW d 289 311 [l0, l1, l2, some (.int x)] [v0, v1, v2] m Q ↔ AW d 289 312 [l0, l1, l2, some (.int x)] [.int x, v0, v1, v2] m Q := A_iload_n hB_L_law dL_law_311 rfl
theorem dL_law_312 : decode cL_law 312 = .ok (.iconst 2, 1) := by decide +kernel
theorem tL_law_312 {d : Nat} {l0 l1 l2 l3 : Option Value} {v0 v1 v2 v3 : Value} {m : jmM} {Q : Option Value → jmM → Prop} : AW d 289 312 [l0, l1, l2, l3] [v0, v1, v2, v3] m Q ↔ AW d 289 313 [l0, l1, l2, l3] [.int 2, v0, v1, v2, v3] m Q := A_iconst hB_L_law dL_law_312 (by decide)
theorem dL_law_313 : decode cL_law 313 = .ok (.iadd, 1) := by decide +kernel
theorem tL_law_313 {d : Nat} {l0 l1 l2 l3 : Option Value} {v2 v3 v4 : Value} {x y : Int32} {m : jmM} {Q : Option Value → jmM → Prop} : AW d 289 313 [l0, l1, l2, l3] [.int y, .int x, v2, v3, v4] m Q ↔ AW d 289 314 [l0, l1, l2, l3] [.int (x + y), v2, v3, v4] m Q := A_iadd hB_L_law dL_law_313
theorem dL_law_314 : decode cL_law 314 = .ok (.iaload, 1) := by decide +kernel
theorem tL_law_314 {d : Nat} {l0 l1 l2 l3 : Option Value} {v2 v3 : Value} {i : Int32} {a : Nat} {m : jmM} {Q : Option Value → jmM → Prop} : AW d 289 314 [l0, l1, l2, l3] [.int i, .ref a, v2, v3] m Q ↔ (((mS m a).1 = 20 ∨ a = jScr) ∧ jIx i (mS m a).2) ∧ AW d 289 315 [l0, l1, l2, l3] [.int (mI m a (jx i)), v2, v3] m Q := A_iaload hB_L_law dL_law_314
theorem dL_law_315 : decode cL_law 315 = .ok (.aload_n 0, 1) := by decide +kernel
theorem tL_law_315 {d : Nat} {l1 l2 l3 : Option Value} {v0 v1 v2 : Value} {x : Nat} {m : jmM} {Q : Option Value → jmM → Prop} : AW d 289 315 [some (.ref x), l1, l2, l3] [v0, v1, v2] m Q ↔ AW d 289 316 [some (.ref x), l1, l2, l3] [.ref x, v0, v1, v2] m Q := A_aload_n hB_L_law dL_law_315 rfl
theorem dL_law_316 : decode cL_law 316 = .ok (.iload_n 3, 1) := by decide +kernel
theorem tL_law_316 {d : Nat} {l0 l1 l2 : Option Value} {v0 v1 v2 v3 : Value} {x : Int32} {m : jmM} {Q : Option Value → jmM → Prop} : AW d 289 316 [l0, l1, l2, some (.int x)] [v0, v1, v2, v3] m Q ↔ AW d 289 317 [l0, l1, l2, some (.int x)] [.int x, v0, v1, v2, v3] m Q := A_iload_n hB_L_law dL_law_316 rfl
theorem dL_law_317 : decode cL_law 317 = .ok (.iconst 3, 1) := by decide +kernel
theorem tL_law_317 {d : Nat} {l0 l1 l2 l3 : Option Value} {v0 v1 v2 v3 v4 : Value} {m : jmM} {Q : Option Value → jmM → Prop} : AW d 289 317 [l0, l1, l2, l3] [v0, v1, v2, v3, v4] m Q ↔ AW d 289 318 [l0, l1, l2, l3] [.int 3, v0, v1, v2, v3, v4] m Q := A_iconst hB_L_law dL_law_317 (by decide)
theorem dL_law_318 : decode cL_law 318 = .ok (.iadd, 1) := by decide +kernel
theorem tL_law_318 {d : Nat} {l0 l1 l2 l3 : Option Value} {v2 v3 v4 v5 : Value} {x y : Int32} {m : jmM} {Q : Option Value → jmM → Prop} : AW d 289 318 [l0, l1, l2, l3] [.int y, .int x, v2, v3, v4, v5] m Q ↔ AW d 289 319 [l0, l1, l2, l3] [.int (x + y), v2, v3, v4, v5] m Q := A_iadd hB_L_law dL_law_318
theorem dL_law_319 : decode cL_law 319 = .ok (.iaload, 1) := by decide +kernel
theorem tL_law_319 {d : Nat} {l0 l1 l2 l3 : Option Value} {v2 v3 v4 : Value} {i : Int32} {a : Nat} {m : jmM} {Q : Option Value → jmM → Prop} : AW d 289 319 [l0, l1, l2, l3] [.int i, .ref a, v2, v3, v4] m Q ↔ (((mS m a).1 = 20 ∨ a = jScr) ∧ jIx i (mS m a).2) ∧ AW d 289 320 [l0, l1, l2, l3] [.int (mI m a (jx i)), v2, v3, v4] m Q := A_iaload hB_L_law dL_law_319
theorem dL_law_320 : decode cL_law 320 = .ok (.invokevirtual 32, 3) := by decide +kernel
theorem tL_law_320 {d : Nat} {l0 l1 l2 l3 : Option Value} {y0 y1 y2 : Value} {a : Nat} {m : jmM} {Q : Option Value → jmM → Prop} : AW d 289 320 [l0, l1, l2, l3] [y0, y1, y2, .ref a] m Q ↔ (mS m a).1 = 11 ∧ CC d 145 [.ref a, y2, y1, y0] m (jK d 289 323 [l0, l1, l2, l3] [] Q) := A_callV hB_L_law dL_law_320 hO_L_law fS_13_32 ⟨Nat.le_of_ble_eq_true rfl, Nat.le_of_ble_eq_true rfl⟩ rfl rfl rfl
theorem dL_law_323 : decode cL_law 323 = .ok (.aload_n 2, 1) := by decide +kernel
theorem tL_law_323 {d : Nat} {l0 l1 l3 : Option Value} {v0 : Value} {x : Nat} {m : jmM} {Q : Option Value → jmM → Prop} : AW d 289 323 [l0, l1, some (.ref x), l3] [v0] m Q ↔ AW d 289 324 [l0, l1, some (.ref x), l3] [.ref x, v0] m Q := A_aload_n hB_L_law dL_law_323 rfl
theorem dL_law_324 : decode cL_law 324 = .ok (.aload_n 0, 1) := by decide +kernel
theorem tL_law_324 {d : Nat} {l1 l2 l3 : Option Value} {v0 v1 : Value} {x : Nat} {m : jmM} {Q : Option Value → jmM → Prop} : AW d 289 324 [some (.ref x), l1, l2, l3] [v0, v1] m Q ↔ AW d 289 325 [some (.ref x), l1, l2, l3] [.ref x, v0, v1] m Q := A_aload_n hB_L_law dL_law_324 rfl
theorem dL_law_325 : decode cL_law 325 = .ok (.iload_n 3, 1) := by decide +kernel
theorem tL_law_325 {d : Nat} {l0 l1 l2 : Option Value} {v0 v1 v2 : Value} {x : Int32} {m : jmM} {Q : Option Value → jmM → Prop} : AW d 289 325 [l0, l1, l2, some (.int x)] [v0, v1, v2] m Q ↔ AW d 289 326 [l0, l1, l2, some (.int x)] [.int x, v0, v1, v2] m Q := A_iload_n hB_L_law dL_law_325 rfl
theorem dL_law_326 : decode cL_law 326 = .ok (.iconst 1, 1) := by decide +kernel
theorem tL_law_326 {d : Nat} {l0 l1 l2 l3 : Option Value} {v0 v1 v2 v3 : Value} {m : jmM} {Q : Option Value → jmM → Prop} : AW d 289 326 [l0, l1, l2, l3] [v0, v1, v2, v3] m Q ↔ AW d 289 327 [l0, l1, l2, l3] [.int 1, v0, v1, v2, v3] m Q := A_iconst hB_L_law dL_law_326 (by decide)
theorem dL_law_327 : decode cL_law 327 = .ok (.iadd, 1) := by decide +kernel
theorem tL_law_327 {d : Nat} {l0 l1 l2 l3 : Option Value} {v2 v3 v4 : Value} {x y : Int32} {m : jmM} {Q : Option Value → jmM → Prop} : AW d 289 327 [l0, l1, l2, l3] [.int y, .int x, v2, v3, v4] m Q ↔ AW d 289 328 [l0, l1, l2, l3] [.int (x + y), v2, v3, v4] m Q := A_iadd hB_L_law dL_law_327
theorem dL_law_328 : decode cL_law 328 = .ok (.iaload, 1) := by decide +kernel
theorem tL_law_328 {d : Nat} {l0 l1 l2 l3 : Option Value} {v2 v3 : Value} {i : Int32} {a : Nat} {m : jmM} {Q : Option Value → jmM → Prop} : AW d 289 328 [l0, l1, l2, l3] [.int i, .ref a, v2, v3] m Q ↔ (((mS m a).1 = 20 ∨ a = jScr) ∧ jIx i (mS m a).2) ∧ AW d 289 329 [l0, l1, l2, l3] [.int (mI m a (jx i)), v2, v3] m Q := A_iaload hB_L_law dL_law_328
theorem dL_law_329 : decode cL_law 329 = .ok (.aload_n 0, 1) := by decide +kernel
theorem tL_law_329 {d : Nat} {l1 l2 l3 : Option Value} {v0 v1 v2 : Value} {x : Nat} {m : jmM} {Q : Option Value → jmM → Prop} : AW d 289 329 [some (.ref x), l1, l2, l3] [v0, v1, v2] m Q ↔ AW d 289 330 [some (.ref x), l1, l2, l3] [.ref x, v0, v1, v2] m Q := A_aload_n hB_L_law dL_law_329 rfl
theorem dL_law_330 : decode cL_law 330 = .ok (.iload_n 3, 1) := by decide +kernel
theorem tL_law_330 {d : Nat} {l0 l1 l2 : Option Value} {v0 v1 v2 v3 : Value} {x : Int32} {m : jmM} {Q : Option Value → jmM → Prop} : AW d 289 330 [l0, l1, l2, some (.int x)] [v0, v1, v2, v3] m Q ↔ AW d 289 331 [l0, l1, l2, some (.int x)] [.int x, v0, v1, v2, v3] m Q := A_iload_n hB_L_law dL_law_330 rfl
theorem dL_law_331 : decode cL_law 331 = .ok (.iconst 2, 1) := by decide +kernel
theorem tL_law_331 {d : Nat} {l0 l1 l2 l3 : Option Value} {v0 v1 v2 v3 v4 : Value} {m : jmM} {Q : Option Value → jmM → Prop} : AW d 289 331 [l0, l1, l2, l3] [v0, v1, v2, v3, v4] m Q ↔ AW d 289 332 [l0, l1, l2, l3] [.int 2, v0, v1, v2, v3, v4] m Q := A_iconst hB_L_law dL_law_331 (by decide)
theorem dL_law_332 : decode cL_law 332 = .ok (.iadd, 1) := by decide +kernel
theorem tL_law_332 {d : Nat} {l0 l1 l2 l3 : Option Value} {v2 v3 v4 v5 : Value} {x y : Int32} {m : jmM} {Q : Option Value → jmM → Prop} : AW d 289 332 [l0, l1, l2, l3] [.int y, .int x, v2, v3, v4, v5] m Q ↔ AW d 289 333 [l0, l1, l2, l3] [.int (x + y), v2, v3, v4, v5] m Q := A_iadd hB_L_law dL_law_332
theorem dL_law_333 : decode cL_law 333 = .ok (.iaload, 1) := by decide +kernel
theorem tL_law_333 {d : Nat} {l0 l1 l2 l3 : Option Value} {v2 v3 v4 : Value} {i : Int32} {a : Nat} {m : jmM} {Q : Option Value → jmM → Prop} : AW d 289 333 [l0, l1, l2, l3] [.int i, .ref a, v2, v3, v4] m Q ↔ (((mS m a).1 = 20 ∨ a = jScr) ∧ jIx i (mS m a).2) ∧ AW d 289 334 [l0, l1, l2, l3] [.int (mI m a (jx i)), v2, v3, v4] m Q := A_iaload hB_L_law dL_law_333
theorem dL_law_334 : decode cL_law 334 = .ok (.aload_n 0, 1) := by decide +kernel
theorem tL_law_334 {d : Nat} {l1 l2 l3 : Option Value} {v0 v1 v2 v3 : Value} {x : Nat} {m : jmM} {Q : Option Value → jmM → Prop} : AW d 289 334 [some (.ref x), l1, l2, l3] [v0, v1, v2, v3] m Q ↔ AW d 289 335 [some (.ref x), l1, l2, l3] [.ref x, v0, v1, v2, v3] m Q := A_aload_n hB_L_law dL_law_334 rfl
theorem dL_law_335 : decode cL_law 335 = .ok (.iload_n 3, 1) := by decide +kernel
theorem tL_law_335 {d : Nat} {l0 l1 l2 : Option Value} {v0 v1 v2 v3 v4 : Value} {x : Int32} {m : jmM} {Q : Option Value → jmM → Prop} : AW d 289 335 [l0, l1, l2, some (.int x)] [v0, v1, v2, v3, v4] m Q ↔ AW d 289 336 [l0, l1, l2, some (.int x)] [.int x, v0, v1, v2, v3, v4] m Q := A_iload_n hB_L_law dL_law_335 rfl
theorem dL_law_336 : decode cL_law 336 = .ok (.iconst 3, 1) := by decide +kernel
theorem tL_law_336 {d : Nat} {l0 l1 l2 l3 : Option Value} {v0 v1 v2 v3 v4 v5 : Value} {m : jmM} {Q : Option Value → jmM → Prop} : AW d 289 336 [l0, l1, l2, l3] [v0, v1, v2, v3, v4, v5] m Q ↔ AW d 289 337 [l0, l1, l2, l3] [.int 3, v0, v1, v2, v3, v4, v5] m Q := A_iconst hB_L_law dL_law_336 (by decide)
theorem dL_law_337 : decode cL_law 337 = .ok (.iadd, 1) := by decide +kernel
theorem tL_law_337 {d : Nat} {l0 l1 l2 l3 : Option Value} {v2 v3 v4 v5 v6 : Value} {x y : Int32} {m : jmM} {Q : Option Value → jmM → Prop} : AW d 289 337 [l0, l1, l2, l3] [.int y, .int x, v2, v3, v4, v5, v6] m Q ↔ AW d 289 338 [l0, l1, l2, l3] [.int (x + y), v2, v3, v4, v5, v6] m Q := A_iadd hB_L_law dL_law_337
theorem dL_law_338 : decode cL_law 338 = .ok (.iaload, 1) := by decide +kernel
theorem tL_law_338 {d : Nat} {l0 l1 l2 l3 : Option Value} {v2 v3 v4 v5 : Value} {i : Int32} {a : Nat} {m : jmM} {Q : Option Value → jmM → Prop} : AW d 289 338 [l0, l1, l2, l3] [.int i, .ref a, v2, v3, v4, v5] m Q ↔ (((mS m a).1 = 20 ∨ a = jScr) ∧ jIx i (mS m a).2) ∧ AW d 289 339 [l0, l1, l2, l3] [.int (mI m a (jx i)), v2, v3, v4, v5] m Q := A_iaload hB_L_law dL_law_338
theorem dL_law_339 : decode cL_law 339 = .ok (.invokevirtual 36, 3) := by decide +kernel
theorem tL_law_339 {d : Nat} {l0 l1 l2 l3 : Option Value} {v4 : Value} {y0 y1 y2 : Value} {a : Nat} {m : jmM} {Q : Option Value → jmM → Prop} : AW d 289 339 [l0, l1, l2, l3] [y0, y1, y2, .ref a, v4] m Q ↔ (mS m a).1 = 12 ∧ CC d 228 [.ref a, y2, y1, y0] m (jK d 289 342 [l0, l1, l2, l3] [v4] Q) := A_callV hB_L_law dL_law_339 hO_L_law fS_13_36 ⟨Nat.le_of_ble_eq_true rfl, Nat.le_of_ble_eq_true rfl⟩ rfl rfl rfl
theorem dL_law_342 : decode cL_law 342 = .ok (.if_icmp .eq 1080, 3) := by decide +kernel
theorem tL_law_342 {d : Nat} {l0 l1 l2 l3 : Option Value} {x y : Int32} {m : jmM} {Q : Option Value → jmM → Prop} : AW d 289 342 [l0, l1, l2, l3] [.int y, .int x] m Q ↔ if x = y then AW d 289 1422 [l0, l1, l2, l3] [] m Q else AW d 289 345 [l0, l1, l2, l3] [] m Q := A_icmp_eq hB_L_law dL_law_342 (by decide)
theorem dL_law_345 : decode cL_law 345 = .ok (.iconst 0, 1) := by decide +kernel
theorem tL_law_345 {d : Nat} {l0 l1 l2 l3 : Option Value} {m : jmM} {Q : Option Value → jmM → Prop} : AW d 289 345 [l0, l1, l2, l3] [] m Q ↔ AW d 289 346 [l0, l1, l2, l3] [.int 0] m Q := A_iconst hB_L_law dL_law_345 (by decide)
theorem dL_law_346 : decode cL_law 346 = .ok (.ireturn, 1) := by decide +kernel
theorem tL_law_346 {d : Nat} {l0 l1 l2 l3 : Option Value} {x : Int32} {m : jmM} {Q : Option Value → jmM → Prop} : AW d 289 346 [l0, l1, l2, l3] [.int x] m Q ↔ jBool x ∧ Q (some (.int x)) m := A_zreturn hB_L_law dL_law_346 hR_L_law
theorem dL_law_347 : decode cL_law 347 = .ok (.aload_n 1, 1) := by decide +kernel
theorem tL_law_347 {d : Nat} {l0 l2 l3 : Option Value} {x : Nat} {m : jmM} {Q : Option Value → jmM → Prop} : AW d 289 347 [l0, some (.ref x), l2, l3] [] m Q ↔ AW d 289 348 [l0, some (.ref x), l2, l3] [.ref x] m Q := A_aload_n hB_L_law dL_law_347 rfl
theorem dL_law_348 : decode cL_law 348 = .ok (.aload_n 0, 1) := by decide +kernel
theorem tL_law_348 {d : Nat} {l1 l2 l3 : Option Value} {v0 : Value} {x : Nat} {m : jmM} {Q : Option Value → jmM → Prop} : AW d 289 348 [some (.ref x), l1, l2, l3] [v0] m Q ↔ AW d 289 349 [some (.ref x), l1, l2, l3] [.ref x, v0] m Q := A_aload_n hB_L_law dL_law_348 rfl
theorem dL_law_349 : decode cL_law 349 = .ok (.iload_n 3, 1) := by decide +kernel
theorem tL_law_349 {d : Nat} {l0 l1 l2 : Option Value} {v0 v1 : Value} {x : Int32} {m : jmM} {Q : Option Value → jmM → Prop} : AW d 289 349 [l0, l1, l2, some (.int x)] [v0, v1] m Q ↔ AW d 289 350 [l0, l1, l2, some (.int x)] [.int x, v0, v1] m Q := A_iload_n hB_L_law dL_law_349 rfl
theorem dL_law_350 : decode cL_law 350 = .ok (.iconst 1, 1) := by decide +kernel
theorem tL_law_350 {d : Nat} {l0 l1 l2 l3 : Option Value} {v0 v1 v2 : Value} {m : jmM} {Q : Option Value → jmM → Prop} : AW d 289 350 [l0, l1, l2, l3] [v0, v1, v2] m Q ↔ AW d 289 351 [l0, l1, l2, l3] [.int 1, v0, v1, v2] m Q := A_iconst hB_L_law dL_law_350 (by decide)
theorem dL_law_351 : decode cL_law 351 = .ok (.iadd, 1) := by decide +kernel
theorem tL_law_351 {d : Nat} {l0 l1 l2 l3 : Option Value} {v2 v3 : Value} {x y : Int32} {m : jmM} {Q : Option Value → jmM → Prop} : AW d 289 351 [l0, l1, l2, l3] [.int y, .int x, v2, v3] m Q ↔ AW d 289 352 [l0, l1, l2, l3] [.int (x + y), v2, v3] m Q := A_iadd hB_L_law dL_law_351
theorem dL_law_352 : decode cL_law 352 = .ok (.iaload, 1) := by decide +kernel
theorem tL_law_352 {d : Nat} {l0 l1 l2 l3 : Option Value} {v2 : Value} {i : Int32} {a : Nat} {m : jmM} {Q : Option Value → jmM → Prop} : AW d 289 352 [l0, l1, l2, l3] [.int i, .ref a, v2] m Q ↔ (((mS m a).1 = 20 ∨ a = jScr) ∧ jIx i (mS m a).2) ∧ AW d 289 353 [l0, l1, l2, l3] [.int (mI m a (jx i)), v2] m Q := A_iaload hB_L_law dL_law_352
theorem dL_law_353 : decode cL_law 353 = .ok (.aload_n 0, 1) := by decide +kernel
theorem tL_law_353 {d : Nat} {l1 l2 l3 : Option Value} {v0 v1 : Value} {x : Nat} {m : jmM} {Q : Option Value → jmM → Prop} : AW d 289 353 [some (.ref x), l1, l2, l3] [v0, v1] m Q ↔ AW d 289 354 [some (.ref x), l1, l2, l3] [.ref x, v0, v1] m Q := A_aload_n hB_L_law dL_law_353 rfl
theorem dL_law_354 : decode cL_law 354 = .ok (.iload_n 3, 1) := by decide +kernel
theorem tL_law_354 {d : Nat} {l0 l1 l2 : Option Value} {v0 v1 v2 : Value} {x : Int32} {m : jmM} {Q : Option Value → jmM → Prop} : AW d 289 354 [l0, l1, l2, some (.int x)] [v0, v1, v2] m Q ↔ AW d 289 355 [l0, l1, l2, some (.int x)] [.int x, v0, v1, v2] m Q := A_iload_n hB_L_law dL_law_354 rfl
theorem dL_law_355 : decode cL_law 355 = .ok (.iconst 2, 1) := by decide +kernel
theorem tL_law_355 {d : Nat} {l0 l1 l2 l3 : Option Value} {v0 v1 v2 v3 : Value} {m : jmM} {Q : Option Value → jmM → Prop} : AW d 289 355 [l0, l1, l2, l3] [v0, v1, v2, v3] m Q ↔ AW d 289 356 [l0, l1, l2, l3] [.int 2, v0, v1, v2, v3] m Q := A_iconst hB_L_law dL_law_355 (by decide)
theorem dL_law_356 : decode cL_law 356 = .ok (.iadd, 1) := by decide +kernel
theorem tL_law_356 {d : Nat} {l0 l1 l2 l3 : Option Value} {v2 v3 v4 : Value} {x y : Int32} {m : jmM} {Q : Option Value → jmM → Prop} : AW d 289 356 [l0, l1, l2, l3] [.int y, .int x, v2, v3, v4] m Q ↔ AW d 289 357 [l0, l1, l2, l3] [.int (x + y), v2, v3, v4] m Q := A_iadd hB_L_law dL_law_356
theorem dL_law_357 : decode cL_law 357 = .ok (.iaload, 1) := by decide +kernel
theorem tL_law_357 {d : Nat} {l0 l1 l2 l3 : Option Value} {v2 v3 : Value} {i : Int32} {a : Nat} {m : jmM} {Q : Option Value → jmM → Prop} : AW d 289 357 [l0, l1, l2, l3] [.int i, .ref a, v2, v3] m Q ↔ (((mS m a).1 = 20 ∨ a = jScr) ∧ jIx i (mS m a).2) ∧ AW d 289 358 [l0, l1, l2, l3] [.int (mI m a (jx i)), v2, v3] m Q := A_iaload hB_L_law dL_law_357
theorem dL_law_358 : decode cL_law 358 = .ok (.aload_n 0, 1) := by decide +kernel
theorem tL_law_358 {d : Nat} {l1 l2 l3 : Option Value} {v0 v1 v2 : Value} {x : Nat} {m : jmM} {Q : Option Value → jmM → Prop} : AW d 289 358 [some (.ref x), l1, l2, l3] [v0, v1, v2] m Q ↔ AW d 289 359 [some (.ref x), l1, l2, l3] [.ref x, v0, v1, v2] m Q := A_aload_n hB_L_law dL_law_358 rfl
theorem dL_law_359 : decode cL_law 359 = .ok (.iload_n 3, 1) := by decide +kernel
theorem tL_law_359 {d : Nat} {l0 l1 l2 : Option Value} {v0 v1 v2 v3 : Value} {x : Int32} {m : jmM} {Q : Option Value → jmM → Prop} : AW d 289 359 [l0, l1, l2, some (.int x)] [v0, v1, v2, v3] m Q ↔ AW d 289 360 [l0, l1, l2, some (.int x)] [.int x, v0, v1, v2, v3] m Q := A_iload_n hB_L_law dL_law_359 rfl
theorem dL_law_360 : decode cL_law 360 = .ok (.iconst 3, 1) := by decide +kernel
theorem tL_law_360 {d : Nat} {l0 l1 l2 l3 : Option Value} {v0 v1 v2 v3 v4 : Value} {m : jmM} {Q : Option Value → jmM → Prop} : AW d 289 360 [l0, l1, l2, l3] [v0, v1, v2, v3, v4] m Q ↔ AW d 289 361 [l0, l1, l2, l3] [.int 3, v0, v1, v2, v3, v4] m Q := A_iconst hB_L_law dL_law_360 (by decide)
theorem dL_law_361 : decode cL_law 361 = .ok (.iadd, 1) := by decide +kernel
theorem tL_law_361 {d : Nat} {l0 l1 l2 l3 : Option Value} {v2 v3 v4 v5 : Value} {x y : Int32} {m : jmM} {Q : Option Value → jmM → Prop} : AW d 289 361 [l0, l1, l2, l3] [.int y, .int x, v2, v3, v4, v5] m Q ↔ AW d 289 362 [l0, l1, l2, l3] [.int (x + y), v2, v3, v4, v5] m Q := A_iadd hB_L_law dL_law_361
theorem dL_law_362 : decode cL_law 362 = .ok (.iaload, 1) := by decide +kernel
theorem tL_law_362 {d : Nat} {l0 l1 l2 l3 : Option Value} {v2 v3 v4 : Value} {i : Int32} {a : Nat} {m : jmM} {Q : Option Value → jmM → Prop} : AW d 289 362 [l0, l1, l2, l3] [.int i, .ref a, v2, v3, v4] m Q ↔ (((mS m a).1 = 20 ∨ a = jScr) ∧ jIx i (mS m a).2) ∧ AW d 289 363 [l0, l1, l2, l3] [.int (mI m a (jx i)), v2, v3, v4] m Q := A_iaload hB_L_law dL_law_362
theorem dL_law_363 : decode cL_law 363 = .ok (.aload_n 0, 1) := by decide +kernel
theorem tL_law_363 {d : Nat} {l1 l2 l3 : Option Value} {v0 v1 v2 v3 : Value} {x : Nat} {m : jmM} {Q : Option Value → jmM → Prop} : AW d 289 363 [some (.ref x), l1, l2, l3] [v0, v1, v2, v3] m Q ↔ AW d 289 364 [some (.ref x), l1, l2, l3] [.ref x, v0, v1, v2, v3] m Q := A_aload_n hB_L_law dL_law_363 rfl
theorem dL_law_364 : decode cL_law 364 = .ok (.iload_n 3, 1) := by decide +kernel
theorem tL_law_364 {d : Nat} {l0 l1 l2 : Option Value} {v0 v1 v2 v3 v4 : Value} {x : Int32} {m : jmM} {Q : Option Value → jmM → Prop} : AW d 289 364 [l0, l1, l2, some (.int x)] [v0, v1, v2, v3, v4] m Q ↔ AW d 289 365 [l0, l1, l2, some (.int x)] [.int x, v0, v1, v2, v3, v4] m Q := A_iload_n hB_L_law dL_law_364 rfl
theorem dL_law_365 : decode cL_law 365 = .ok (.iconst 4, 1) := by decide +kernel
theorem tL_law_365 {d : Nat} {l0 l1 l2 l3 : Option Value} {v0 v1 v2 v3 v4 v5 : Value} {m : jmM} {Q : Option Value → jmM → Prop} : AW d 289 365 [l0, l1, l2, l3] [v0, v1, v2, v3, v4, v5] m Q ↔ AW d 289 366 [l0, l1, l2, l3] [.int 4, v0, v1, v2, v3, v4, v5] m Q := A_iconst hB_L_law dL_law_365 (by decide)
theorem dL_law_366 : decode cL_law 366 = .ok (.iadd, 1) := by decide +kernel
theorem tL_law_366 {d : Nat} {l0 l1 l2 l3 : Option Value} {v2 v3 v4 v5 v6 : Value} {x y : Int32} {m : jmM} {Q : Option Value → jmM → Prop} : AW d 289 366 [l0, l1, l2, l3] [.int y, .int x, v2, v3, v4, v5, v6] m Q ↔ AW d 289 367 [l0, l1, l2, l3] [.int (x + y), v2, v3, v4, v5, v6] m Q := A_iadd hB_L_law dL_law_366
theorem dL_law_367 : decode cL_law 367 = .ok (.iaload, 1) := by decide +kernel
theorem tL_law_367 {d : Nat} {l0 l1 l2 l3 : Option Value} {v2 v3 v4 v5 : Value} {i : Int32} {a : Nat} {m : jmM} {Q : Option Value → jmM → Prop} : AW d 289 367 [l0, l1, l2, l3] [.int i, .ref a, v2, v3, v4, v5] m Q ↔ (((mS m a).1 = 20 ∨ a = jScr) ∧ jIx i (mS m a).2) ∧ AW d 289 368 [l0, l1, l2, l3] [.int (mI m a (jx i)), v2, v3, v4, v5] m Q := A_iaload hB_L_law dL_law_367
theorem dL_law_368 : decode cL_law 368 = .ok (.aload_n 0, 1) := by decide +kernel
theorem tL_law_368 {d : Nat} {l1 l2 l3 : Option Value} {v0 v1 v2 v3 v4 : Value} {x : Nat} {m : jmM} {Q : Option Value → jmM → Prop} : AW d 289 368 [some (.ref x), l1, l2, l3] [v0, v1, v2, v3, v4] m Q ↔ AW d 289 369 [some (.ref x), l1, l2, l3] [.ref x, v0, v1, v2, v3, v4] m Q := A_aload_n hB_L_law dL_law_368 rfl
theorem dL_law_369 : decode cL_law 369 = .ok (.iload_n 3, 1) := by decide +kernel
theorem tL_law_369 {d : Nat} {l0 l1 l2 : Option Value} {v0 v1 v2 v3 v4 v5 : Value} {x : Int32} {m : jmM} {Q : Option Value → jmM → Prop} : AW d 289 369 [l0, l1, l2, some (.int x)] [v0, v1, v2, v3, v4, v5] m Q ↔ AW d 289 370 [l0, l1, l2, some (.int x)] [.int x, v0, v1, v2, v3, v4, v5] m Q := A_iload_n hB_L_law dL_law_369 rfl
theorem dL_law_370 : decode cL_law 370 = .ok (.iconst 5, 1) := by decide +kernel
theorem tL_law_370 {d : Nat} {l0 l1 l2 l3 : Option Value} {v0 v1 v2 v3 v4 v5 v6 : Value} {m : jmM} {Q : Option Value → jmM → Prop} : AW d 289 370 [l0, l1, l2, l3] [v0, v1, v2, v3, v4, v5, v6] m Q ↔ AW d 289 371 [l0, l1, l2, l3] [.int 5, v0, v1, v2, v3, v4, v5, v6] m Q := A_iconst hB_L_law dL_law_370 (by decide)
theorem dL_law_371 : decode cL_law 371 = .ok (.iadd, 1) := by decide +kernel
theorem tL_law_371 {d : Nat} {l0 l1 l2 l3 : Option Value} {v2 v3 v4 v5 v6 v7 : Value} {x y : Int32} {m : jmM} {Q : Option Value → jmM → Prop} : AW d 289 371 [l0, l1, l2, l3] [.int y, .int x, v2, v3, v4, v5, v6, v7] m Q ↔ AW d 289 372 [l0, l1, l2, l3] [.int (x + y), v2, v3, v4, v5, v6, v7] m Q := A_iadd hB_L_law dL_law_371
theorem dL_law_372 : decode cL_law 372 = .ok (.iaload, 1) := by decide +kernel
theorem tL_law_372 {d : Nat} {l0 l1 l2 l3 : Option Value} {v2 v3 v4 v5 v6 : Value} {i : Int32} {a : Nat} {m : jmM} {Q : Option Value → jmM → Prop} : AW d 289 372 [l0, l1, l2, l3] [.int i, .ref a, v2, v3, v4, v5, v6] m Q ↔ (((mS m a).1 = 20 ∨ a = jScr) ∧ jIx i (mS m a).2) ∧ AW d 289 373 [l0, l1, l2, l3] [.int (mI m a (jx i)), v2, v3, v4, v5, v6] m Q := A_iaload hB_L_law dL_law_372
theorem dL_law_373 : decode cL_law 373 = .ok (.aload_n 0, 1) := by decide +kernel
theorem tL_law_373 {d : Nat} {l1 l2 l3 : Option Value} {v0 v1 v2 v3 v4 v5 : Value} {x : Nat} {m : jmM} {Q : Option Value → jmM → Prop} : AW d 289 373 [some (.ref x), l1, l2, l3] [v0, v1, v2, v3, v4, v5] m Q ↔ AW d 289 374 [some (.ref x), l1, l2, l3] [.ref x, v0, v1, v2, v3, v4, v5] m Q := A_aload_n hB_L_law dL_law_373 rfl
theorem dL_law_374 : decode cL_law 374 = .ok (.iload_n 3, 1) := by decide +kernel
theorem tL_law_374 {d : Nat} {l0 l1 l2 : Option Value} {v0 v1 v2 v3 v4 v5 v6 : Value} {x : Int32} {m : jmM} {Q : Option Value → jmM → Prop} : AW d 289 374 [l0, l1, l2, some (.int x)] [v0, v1, v2, v3, v4, v5, v6] m Q ↔ AW d 289 375 [l0, l1, l2, some (.int x)] [.int x, v0, v1, v2, v3, v4, v5, v6] m Q := A_iload_n hB_L_law dL_law_374 rfl
theorem dL_law_375 : decode cL_law 375 = .ok (.bipush 6, 2) := by decide +kernel
theorem tL_law_375 {d : Nat} {l0 l1 l2 l3 : Option Value} {v0 v1 v2 v3 v4 v5 v6 v7 : Value} {m : jmM} {Q : Option Value → jmM → Prop} : AW d 289 375 [l0, l1, l2, l3] [v0, v1, v2, v3, v4, v5, v6, v7] m Q ↔ AW d 289 377 [l0, l1, l2, l3] [.int 6, v0, v1, v2, v3, v4, v5, v6, v7] m Q := A_bipush hB_L_law dL_law_375 rfl
theorem dL_law_377 : decode cL_law 377 = .ok (.iadd, 1) := by decide +kernel
theorem tL_law_377 {d : Nat} {l0 l1 l2 l3 : Option Value} {v2 v3 v4 v5 v6 v7 v8 : Value} {x y : Int32} {m : jmM} {Q : Option Value → jmM → Prop} : AW d 289 377 [l0, l1, l2, l3] [.int y, .int x, v2, v3, v4, v5, v6, v7, v8] m Q ↔ AW d 289 378 [l0, l1, l2, l3] [.int (x + y), v2, v3, v4, v5, v6, v7, v8] m Q := A_iadd hB_L_law dL_law_377
theorem dL_law_378 : decode cL_law 378 = .ok (.iaload, 1) := by decide +kernel
theorem tL_law_378 {d : Nat} {l0 l1 l2 l3 : Option Value} {v2 v3 v4 v5 v6 v7 : Value} {i : Int32} {a : Nat} {m : jmM} {Q : Option Value → jmM → Prop} : AW d 289 378 [l0, l1, l2, l3] [.int i, .ref a, v2, v3, v4, v5, v6, v7] m Q ↔ (((mS m a).1 = 20 ∨ a = jScr) ∧ jIx i (mS m a).2) ∧ AW d 289 379 [l0, l1, l2, l3] [.int (mI m a (jx i)), v2, v3, v4, v5, v6, v7] m Q := A_iaload hB_L_law dL_law_378
theorem dL_law_379 : decode cL_law 379 = .ok (.aload_n 0, 1) := by decide +kernel
theorem tL_law_379 {d : Nat} {l1 l2 l3 : Option Value} {v0 v1 v2 v3 v4 v5 v6 : Value} {x : Nat} {m : jmM} {Q : Option Value → jmM → Prop} : AW d 289 379 [some (.ref x), l1, l2, l3] [v0, v1, v2, v3, v4, v5, v6] m Q ↔ AW d 289 380 [some (.ref x), l1, l2, l3] [.ref x, v0, v1, v2, v3, v4, v5, v6] m Q := A_aload_n hB_L_law dL_law_379 rfl
theorem dL_law_380 : decode cL_law 380 = .ok (.iload_n 3, 1) := by decide +kernel
theorem tL_law_380 {d : Nat} {l0 l1 l2 : Option Value} {v0 v1 v2 v3 v4 v5 v6 v7 : Value} {x : Int32} {m : jmM} {Q : Option Value → jmM → Prop} : AW d 289 380 [l0, l1, l2, some (.int x)] [v0, v1, v2, v3, v4, v5, v6, v7] m Q ↔ AW d 289 381 [l0, l1, l2, some (.int x)] [.int x, v0, v1, v2, v3, v4, v5, v6, v7] m Q := A_iload_n hB_L_law dL_law_380 rfl
theorem dL_law_381 : decode cL_law 381 = .ok (.bipush 7, 2) := by decide +kernel
theorem tL_law_381 {d : Nat} {l0 l1 l2 l3 : Option Value} {v0 v1 v2 v3 v4 v5 v6 v7 v8 : Value} {m : jmM} {Q : Option Value → jmM → Prop} : AW d 289 381 [l0, l1, l2, l3] [v0, v1, v2, v3, v4, v5, v6, v7, v8] m Q ↔ AW d 289 383 [l0, l1, l2, l3] [.int 7, v0, v1, v2, v3, v4, v5, v6, v7, v8] m Q := A_bipush hB_L_law dL_law_381 rfl
theorem dL_law_383 : decode cL_law 383 = .ok (.iadd, 1) := by decide +kernel
theorem tL_law_383 {d : Nat} {l0 l1 l2 l3 : Option Value} {v2 v3 v4 v5 v6 v7 v8 v9 : Value} {x y : Int32} {m : jmM} {Q : Option Value → jmM → Prop} : AW d 289 383 [l0, l1, l2, l3] [.int y, .int x, v2, v3, v4, v5, v6, v7, v8, v9] m Q ↔ AW d 289 384 [l0, l1, l2, l3] [.int (x + y), v2, v3, v4, v5, v6, v7, v8, v9] m Q := A_iadd hB_L_law dL_law_383
theorem dL_law_384 : decode cL_law 384 = .ok (.iaload, 1) := by decide +kernel
theorem tL_law_384 {d : Nat} {l0 l1 l2 l3 : Option Value} {v2 v3 v4 v5 v6 v7 v8 : Value} {i : Int32} {a : Nat} {m : jmM} {Q : Option Value → jmM → Prop} : AW d 289 384 [l0, l1, l2, l3] [.int i, .ref a, v2, v3, v4, v5, v6, v7, v8] m Q ↔ (((mS m a).1 = 20 ∨ a = jScr) ∧ jIx i (mS m a).2) ∧ AW d 289 385 [l0, l1, l2, l3] [.int (mI m a (jx i)), v2, v3, v4, v5, v6, v7, v8] m Q := A_iaload hB_L_law dL_law_384
theorem dL_law_385 : decode cL_law 385 = .ok (.aload_n 0, 1) := by decide +kernel
theorem tL_law_385 {d : Nat} {l1 l2 l3 : Option Value} {v0 v1 v2 v3 v4 v5 v6 v7 : Value} {x : Nat} {m : jmM} {Q : Option Value → jmM → Prop} : AW d 289 385 [some (.ref x), l1, l2, l3] [v0, v1, v2, v3, v4, v5, v6, v7] m Q ↔ AW d 289 386 [some (.ref x), l1, l2, l3] [.ref x, v0, v1, v2, v3, v4, v5, v6, v7] m Q := A_aload_n hB_L_law dL_law_385 rfl
theorem dL_law_386 : decode cL_law 386 = .ok (.iload_n 3, 1) := by decide +kernel
theorem tL_law_386 {d : Nat} {l0 l1 l2 : Option Value} {v0 v1 v2 v3 v4 v5 v6 v7 v8 : Value} {x : Int32} {m : jmM} {Q : Option Value → jmM → Prop} : AW d 289 386 [l0, l1, l2, some (.int x)] [v0, v1, v2, v3, v4, v5, v6, v7, v8] m Q ↔ AW d 289 387 [l0, l1, l2, some (.int x)] [.int x, v0, v1, v2, v3, v4, v5, v6, v7, v8] m Q := A_iload_n hB_L_law dL_law_386 rfl
theorem dL_law_387 : decode cL_law 387 = .ok (.bipush 8, 2) := by decide +kernel
theorem tL_law_387 {d : Nat} {l0 l1 l2 l3 : Option Value} {v0 v1 v2 v3 v4 v5 v6 v7 v8 v9 : Value} {m : jmM} {Q : Option Value → jmM → Prop} : AW d 289 387 [l0, l1, l2, l3] [v0, v1, v2, v3, v4, v5, v6, v7, v8, v9] m Q ↔ AW d 289 389 [l0, l1, l2, l3] [.int 8, v0, v1, v2, v3, v4, v5, v6, v7, v8, v9] m Q := A_bipush hB_L_law dL_law_387 rfl
theorem dL_law_389 : decode cL_law 389 = .ok (.iadd, 1) := by decide +kernel
theorem tL_law_389 {d : Nat} {l0 l1 l2 l3 : Option Value} {v2 v3 v4 v5 v6 v7 v8 v9 v10 : Value} {x y : Int32} {m : jmM} {Q : Option Value → jmM → Prop} : AW d 289 389 [l0, l1, l2, l3] [.int y, .int x, v2, v3, v4, v5, v6, v7, v8, v9, v10] m Q ↔ AW d 289 390 [l0, l1, l2, l3] [.int (x + y), v2, v3, v4, v5, v6, v7, v8, v9, v10] m Q := A_iadd hB_L_law dL_law_389
theorem dL_law_390 : decode cL_law 390 = .ok (.iaload, 1) := by decide +kernel
theorem tL_law_390 {d : Nat} {l0 l1 l2 l3 : Option Value} {v2 v3 v4 v5 v6 v7 v8 v9 : Value} {i : Int32} {a : Nat} {m : jmM} {Q : Option Value → jmM → Prop} : AW d 289 390 [l0, l1, l2, l3] [.int i, .ref a, v2, v3, v4, v5, v6, v7, v8, v9] m Q ↔ (((mS m a).1 = 20 ∨ a = jScr) ∧ jIx i (mS m a).2) ∧ AW d 289 391 [l0, l1, l2, l3] [.int (mI m a (jx i)), v2, v3, v4, v5, v6, v7, v8, v9] m Q := A_iaload hB_L_law dL_law_390
theorem dL_law_391 : decode cL_law 391 = .ok (.aload_n 0, 1) := by decide +kernel
theorem tL_law_391 {d : Nat} {l1 l2 l3 : Option Value} {v0 v1 v2 v3 v4 v5 v6 v7 v8 : Value} {x : Nat} {m : jmM} {Q : Option Value → jmM → Prop} : AW d 289 391 [some (.ref x), l1, l2, l3] [v0, v1, v2, v3, v4, v5, v6, v7, v8] m Q ↔ AW d 289 392 [some (.ref x), l1, l2, l3] [.ref x, v0, v1, v2, v3, v4, v5, v6, v7, v8] m Q := A_aload_n hB_L_law dL_law_391 rfl
theorem dL_law_392 : decode cL_law 392 = .ok (.iload_n 3, 1) := by decide +kernel
theorem tL_law_392 {d : Nat} {l0 l1 l2 : Option Value} {v0 v1 v2 v3 v4 v5 v6 v7 v8 v9 : Value} {x : Int32} {m : jmM} {Q : Option Value → jmM → Prop} : AW d 289 392 [l0, l1, l2, some (.int x)] [v0, v1, v2, v3, v4, v5, v6, v7, v8, v9] m Q ↔ AW d 289 393 [l0, l1, l2, some (.int x)] [.int x, v0, v1, v2, v3, v4, v5, v6, v7, v8, v9] m Q := A_iload_n hB_L_law dL_law_392 rfl
theorem dL_law_393 : decode cL_law 393 = .ok (.bipush 9, 2) := by decide +kernel
theorem tL_law_393 {d : Nat} {l0 l1 l2 l3 : Option Value} {v0 v1 v2 v3 v4 v5 v6 v7 v8 v9 v10 : Value} {m : jmM} {Q : Option Value → jmM → Prop} : AW d 289 393 [l0, l1, l2, l3] [v0, v1, v2, v3, v4, v5, v6, v7, v8, v9, v10] m Q ↔ AW d 289 395 [l0, l1, l2, l3] [.int 9, v0, v1, v2, v3, v4, v5, v6, v7, v8, v9, v10] m Q := A_bipush hB_L_law dL_law_393 rfl
theorem dL_law_395 : decode cL_law 395 = .ok (.iadd, 1) := by decide +kernel
theorem tL_law_395 {d : Nat} {l0 l1 l2 l3 : Option Value} {v2 v3 v4 v5 v6 v7 v8 v9 v10 v11 : Value} {x y : Int32} {m : jmM} {Q : Option Value → jmM → Prop} : AW d 289 395 [l0, l1, l2, l3] [.int y, .int x, v2, v3, v4, v5, v6, v7, v8, v9, v10, v11] m Q ↔ AW d 289 396 [l0, l1, l2, l3] [.int (x + y), v2, v3, v4, v5, v6, v7, v8, v9, v10, v11] m Q := A_iadd hB_L_law dL_law_395
theorem dL_law_396 : decode cL_law 396 = .ok (.iaload, 1) := by decide +kernel
theorem tL_law_396 {d : Nat} {l0 l1 l2 l3 : Option Value} {v2 v3 v4 v5 v6 v7 v8 v9 v10 : Value} {i : Int32} {a : Nat} {m : jmM} {Q : Option Value → jmM → Prop} : AW d 289 396 [l0, l1, l2, l3] [.int i, .ref a, v2, v3, v4, v5, v6, v7, v8, v9, v10] m Q ↔ (((mS m a).1 = 20 ∨ a = jScr) ∧ jIx i (mS m a).2) ∧ AW d 289 397 [l0, l1, l2, l3] [.int (mI m a (jx i)), v2, v3, v4, v5, v6, v7, v8, v9, v10] m Q := A_iaload hB_L_law dL_law_396
theorem dL_law_397 : decode cL_law 397 = .ok (.invokevirtual 37, 3) := by decide +kernel
theorem tL_law_397 {d : Nat} {l0 l1 l2 l3 : Option Value} {y0 y1 y2 y3 y4 y5 y6 y7 y8 : Value} {a : Nat} {m : jmM} {Q : Option Value → jmM → Prop} : AW d 289 397 [l0, l1, l2, l3] [y0, y1, y2, y3, y4, y5, y6, y7, y8, .ref a] m Q ↔ (mS m a).1 = 11 ∧ CC d 146 [.ref a, y8, y7, y6, y5, y4, y3, y2, y1, y0] m (jK d 289 400 [l0, l1, l2, l3] [] Q) := A_callV hB_L_law dL_law_397 hO_L_law fS_13_37 ⟨Nat.le_of_ble_eq_true rfl, Nat.le_of_ble_eq_true rfl⟩ rfl rfl rfl
theorem dL_law_400 : decode cL_law 400 = .ok (.aload_n 2, 1) := by decide +kernel
theorem tL_law_400 {d : Nat} {l0 l1 l3 : Option Value} {v0 : Value} {x : Nat} {m : jmM} {Q : Option Value → jmM → Prop} : AW d 289 400 [l0, l1, some (.ref x), l3] [v0] m Q ↔ AW d 289 401 [l0, l1, some (.ref x), l3] [.ref x, v0] m Q := A_aload_n hB_L_law dL_law_400 rfl
theorem dL_law_401 : decode cL_law 401 = .ok (.aload_n 0, 1) := by decide +kernel
theorem tL_law_401 {d : Nat} {l1 l2 l3 : Option Value} {v0 v1 : Value} {x : Nat} {m : jmM} {Q : Option Value → jmM → Prop} : AW d 289 401 [some (.ref x), l1, l2, l3] [v0, v1] m Q ↔ AW d 289 402 [some (.ref x), l1, l2, l3] [.ref x, v0, v1] m Q := A_aload_n hB_L_law dL_law_401 rfl
theorem dL_law_402 : decode cL_law 402 = .ok (.iload_n 3, 1) := by decide +kernel
theorem tL_law_402 {d : Nat} {l0 l1 l2 : Option Value} {v0 v1 v2 : Value} {x : Int32} {m : jmM} {Q : Option Value → jmM → Prop} : AW d 289 402 [l0, l1, l2, some (.int x)] [v0, v1, v2] m Q ↔ AW d 289 403 [l0, l1, l2, some (.int x)] [.int x, v0, v1, v2] m Q := A_iload_n hB_L_law dL_law_402 rfl
theorem dL_law_403 : decode cL_law 403 = .ok (.iconst 1, 1) := by decide +kernel
theorem tL_law_403 {d : Nat} {l0 l1 l2 l3 : Option Value} {v0 v1 v2 v3 : Value} {m : jmM} {Q : Option Value → jmM → Prop} : AW d 289 403 [l0, l1, l2, l3] [v0, v1, v2, v3] m Q ↔ AW d 289 404 [l0, l1, l2, l3] [.int 1, v0, v1, v2, v3] m Q := A_iconst hB_L_law dL_law_403 (by decide)
theorem dL_law_404 : decode cL_law 404 = .ok (.iadd, 1) := by decide +kernel
theorem tL_law_404 {d : Nat} {l0 l1 l2 l3 : Option Value} {v2 v3 v4 : Value} {x y : Int32} {m : jmM} {Q : Option Value → jmM → Prop} : AW d 289 404 [l0, l1, l2, l3] [.int y, .int x, v2, v3, v4] m Q ↔ AW d 289 405 [l0, l1, l2, l3] [.int (x + y), v2, v3, v4] m Q := A_iadd hB_L_law dL_law_404
theorem dL_law_405 : decode cL_law 405 = .ok (.iaload, 1) := by decide +kernel
theorem tL_law_405 {d : Nat} {l0 l1 l2 l3 : Option Value} {v2 v3 : Value} {i : Int32} {a : Nat} {m : jmM} {Q : Option Value → jmM → Prop} : AW d 289 405 [l0, l1, l2, l3] [.int i, .ref a, v2, v3] m Q ↔ (((mS m a).1 = 20 ∨ a = jScr) ∧ jIx i (mS m a).2) ∧ AW d 289 406 [l0, l1, l2, l3] [.int (mI m a (jx i)), v2, v3] m Q := A_iaload hB_L_law dL_law_405
theorem dL_law_406 : decode cL_law 406 = .ok (.aload_n 0, 1) := by decide +kernel
theorem tL_law_406 {d : Nat} {l1 l2 l3 : Option Value} {v0 v1 v2 : Value} {x : Nat} {m : jmM} {Q : Option Value → jmM → Prop} : AW d 289 406 [some (.ref x), l1, l2, l3] [v0, v1, v2] m Q ↔ AW d 289 407 [some (.ref x), l1, l2, l3] [.ref x, v0, v1, v2] m Q := A_aload_n hB_L_law dL_law_406 rfl
theorem dL_law_407 : decode cL_law 407 = .ok (.iload_n 3, 1) := by decide +kernel
theorem tL_law_407 {d : Nat} {l0 l1 l2 : Option Value} {v0 v1 v2 v3 : Value} {x : Int32} {m : jmM} {Q : Option Value → jmM → Prop} : AW d 289 407 [l0, l1, l2, some (.int x)] [v0, v1, v2, v3] m Q ↔ AW d 289 408 [l0, l1, l2, some (.int x)] [.int x, v0, v1, v2, v3] m Q := A_iload_n hB_L_law dL_law_407 rfl
theorem dL_law_408 : decode cL_law 408 = .ok (.iconst 2, 1) := by decide +kernel
theorem tL_law_408 {d : Nat} {l0 l1 l2 l3 : Option Value} {v0 v1 v2 v3 v4 : Value} {m : jmM} {Q : Option Value → jmM → Prop} : AW d 289 408 [l0, l1, l2, l3] [v0, v1, v2, v3, v4] m Q ↔ AW d 289 409 [l0, l1, l2, l3] [.int 2, v0, v1, v2, v3, v4] m Q := A_iconst hB_L_law dL_law_408 (by decide)
theorem dL_law_409 : decode cL_law 409 = .ok (.iadd, 1) := by decide +kernel
theorem tL_law_409 {d : Nat} {l0 l1 l2 l3 : Option Value} {v2 v3 v4 v5 : Value} {x y : Int32} {m : jmM} {Q : Option Value → jmM → Prop} : AW d 289 409 [l0, l1, l2, l3] [.int y, .int x, v2, v3, v4, v5] m Q ↔ AW d 289 410 [l0, l1, l2, l3] [.int (x + y), v2, v3, v4, v5] m Q := A_iadd hB_L_law dL_law_409
theorem dL_law_410 : decode cL_law 410 = .ok (.iaload, 1) := by decide +kernel
theorem tL_law_410 {d : Nat} {l0 l1 l2 l3 : Option Value} {v2 v3 v4 : Value} {i : Int32} {a : Nat} {m : jmM} {Q : Option Value → jmM → Prop} : AW d 289 410 [l0, l1, l2, l3] [.int i, .ref a, v2, v3, v4] m Q ↔ (((mS m a).1 = 20 ∨ a = jScr) ∧ jIx i (mS m a).2) ∧ AW d 289 411 [l0, l1, l2, l3] [.int (mI m a (jx i)), v2, v3, v4] m Q := A_iaload hB_L_law dL_law_410
theorem dL_law_411 : decode cL_law 411 = .ok (.aload_n 0, 1) := by decide +kernel
theorem tL_law_411 {d : Nat} {l1 l2 l3 : Option Value} {v0 v1 v2 v3 : Value} {x : Nat} {m : jmM} {Q : Option Value → jmM → Prop} : AW d 289 411 [some (.ref x), l1, l2, l3] [v0, v1, v2, v3] m Q ↔ AW d 289 412 [some (.ref x), l1, l2, l3] [.ref x, v0, v1, v2, v3] m Q := A_aload_n hB_L_law dL_law_411 rfl
theorem dL_law_412 : decode cL_law 412 = .ok (.iload_n 3, 1) := by decide +kernel
theorem tL_law_412 {d : Nat} {l0 l1 l2 : Option Value} {v0 v1 v2 v3 v4 : Value} {x : Int32} {m : jmM} {Q : Option Value → jmM → Prop} : AW d 289 412 [l0, l1, l2, some (.int x)] [v0, v1, v2, v3, v4] m Q ↔ AW d 289 413 [l0, l1, l2, some (.int x)] [.int x, v0, v1, v2, v3, v4] m Q := A_iload_n hB_L_law dL_law_412 rfl
theorem dL_law_413 : decode cL_law 413 = .ok (.iconst 3, 1) := by decide +kernel
theorem tL_law_413 {d : Nat} {l0 l1 l2 l3 : Option Value} {v0 v1 v2 v3 v4 v5 : Value} {m : jmM} {Q : Option Value → jmM → Prop} : AW d 289 413 [l0, l1, l2, l3] [v0, v1, v2, v3, v4, v5] m Q ↔ AW d 289 414 [l0, l1, l2, l3] [.int 3, v0, v1, v2, v3, v4, v5] m Q := A_iconst hB_L_law dL_law_413 (by decide)
theorem dL_law_414 : decode cL_law 414 = .ok (.iadd, 1) := by decide +kernel
theorem tL_law_414 {d : Nat} {l0 l1 l2 l3 : Option Value} {v2 v3 v4 v5 v6 : Value} {x y : Int32} {m : jmM} {Q : Option Value → jmM → Prop} : AW d 289 414 [l0, l1, l2, l3] [.int y, .int x, v2, v3, v4, v5, v6] m Q ↔ AW d 289 415 [l0, l1, l2, l3] [.int (x + y), v2, v3, v4, v5, v6] m Q := A_iadd hB_L_law dL_law_414
theorem dL_law_415 : decode cL_law 415 = .ok (.iaload, 1) := by decide +kernel
theorem tL_law_415 {d : Nat} {l0 l1 l2 l3 : Option Value} {v2 v3 v4 v5 : Value} {i : Int32} {a : Nat} {m : jmM} {Q : Option Value → jmM → Prop} : AW d 289 415 [l0, l1, l2, l3] [.int i, .ref a, v2, v3, v4, v5] m Q ↔ (((mS m a).1 = 20 ∨ a = jScr) ∧ jIx i (mS m a).2) ∧ AW d 289 416 [l0, l1, l2, l3] [.int (mI m a (jx i)), v2, v3, v4, v5] m Q := A_iaload hB_L_law dL_law_415
theorem dL_law_416 : decode cL_law 416 = .ok (.aload_n 0, 1) := by decide +kernel
theorem tL_law_416 {d : Nat} {l1 l2 l3 : Option Value} {v0 v1 v2 v3 v4 : Value} {x : Nat} {m : jmM} {Q : Option Value → jmM → Prop} : AW d 289 416 [some (.ref x), l1, l2, l3] [v0, v1, v2, v3, v4] m Q ↔ AW d 289 417 [some (.ref x), l1, l2, l3] [.ref x, v0, v1, v2, v3, v4] m Q := A_aload_n hB_L_law dL_law_416 rfl
theorem dL_law_417 : decode cL_law 417 = .ok (.iload_n 3, 1) := by decide +kernel
theorem tL_law_417 {d : Nat} {l0 l1 l2 : Option Value} {v0 v1 v2 v3 v4 v5 : Value} {x : Int32} {m : jmM} {Q : Option Value → jmM → Prop} : AW d 289 417 [l0, l1, l2, some (.int x)] [v0, v1, v2, v3, v4, v5] m Q ↔ AW d 289 418 [l0, l1, l2, some (.int x)] [.int x, v0, v1, v2, v3, v4, v5] m Q := A_iload_n hB_L_law dL_law_417 rfl
theorem dL_law_418 : decode cL_law 418 = .ok (.iconst 4, 1) := by decide +kernel
theorem tL_law_418 {d : Nat} {l0 l1 l2 l3 : Option Value} {v0 v1 v2 v3 v4 v5 v6 : Value} {m : jmM} {Q : Option Value → jmM → Prop} : AW d 289 418 [l0, l1, l2, l3] [v0, v1, v2, v3, v4, v5, v6] m Q ↔ AW d 289 419 [l0, l1, l2, l3] [.int 4, v0, v1, v2, v3, v4, v5, v6] m Q := A_iconst hB_L_law dL_law_418 (by decide)
theorem dL_law_419 : decode cL_law 419 = .ok (.iadd, 1) := by decide +kernel
theorem tL_law_419 {d : Nat} {l0 l1 l2 l3 : Option Value} {v2 v3 v4 v5 v6 v7 : Value} {x y : Int32} {m : jmM} {Q : Option Value → jmM → Prop} : AW d 289 419 [l0, l1, l2, l3] [.int y, .int x, v2, v3, v4, v5, v6, v7] m Q ↔ AW d 289 420 [l0, l1, l2, l3] [.int (x + y), v2, v3, v4, v5, v6, v7] m Q := A_iadd hB_L_law dL_law_419
theorem dL_law_420 : decode cL_law 420 = .ok (.iaload, 1) := by decide +kernel
theorem tL_law_420 {d : Nat} {l0 l1 l2 l3 : Option Value} {v2 v3 v4 v5 v6 : Value} {i : Int32} {a : Nat} {m : jmM} {Q : Option Value → jmM → Prop} : AW d 289 420 [l0, l1, l2, l3] [.int i, .ref a, v2, v3, v4, v5, v6] m Q ↔ (((mS m a).1 = 20 ∨ a = jScr) ∧ jIx i (mS m a).2) ∧ AW d 289 421 [l0, l1, l2, l3] [.int (mI m a (jx i)), v2, v3, v4, v5, v6] m Q := A_iaload hB_L_law dL_law_420
theorem dL_law_421 : decode cL_law 421 = .ok (.aload_n 0, 1) := by decide +kernel
theorem tL_law_421 {d : Nat} {l1 l2 l3 : Option Value} {v0 v1 v2 v3 v4 v5 : Value} {x : Nat} {m : jmM} {Q : Option Value → jmM → Prop} : AW d 289 421 [some (.ref x), l1, l2, l3] [v0, v1, v2, v3, v4, v5] m Q ↔ AW d 289 422 [some (.ref x), l1, l2, l3] [.ref x, v0, v1, v2, v3, v4, v5] m Q := A_aload_n hB_L_law dL_law_421 rfl
theorem dL_law_422 : decode cL_law 422 = .ok (.iload_n 3, 1) := by decide +kernel
theorem tL_law_422 {d : Nat} {l0 l1 l2 : Option Value} {v0 v1 v2 v3 v4 v5 v6 : Value} {x : Int32} {m : jmM} {Q : Option Value → jmM → Prop} : AW d 289 422 [l0, l1, l2, some (.int x)] [v0, v1, v2, v3, v4, v5, v6] m Q ↔ AW d 289 423 [l0, l1, l2, some (.int x)] [.int x, v0, v1, v2, v3, v4, v5, v6] m Q := A_iload_n hB_L_law dL_law_422 rfl
theorem dL_law_423 : decode cL_law 423 = .ok (.iconst 5, 1) := by decide +kernel
theorem tL_law_423 {d : Nat} {l0 l1 l2 l3 : Option Value} {v0 v1 v2 v3 v4 v5 v6 v7 : Value} {m : jmM} {Q : Option Value → jmM → Prop} : AW d 289 423 [l0, l1, l2, l3] [v0, v1, v2, v3, v4, v5, v6, v7] m Q ↔ AW d 289 424 [l0, l1, l2, l3] [.int 5, v0, v1, v2, v3, v4, v5, v6, v7] m Q := A_iconst hB_L_law dL_law_423 (by decide)
theorem dL_law_424 : decode cL_law 424 = .ok (.iadd, 1) := by decide +kernel
theorem tL_law_424 {d : Nat} {l0 l1 l2 l3 : Option Value} {v2 v3 v4 v5 v6 v7 v8 : Value} {x y : Int32} {m : jmM} {Q : Option Value → jmM → Prop} : AW d 289 424 [l0, l1, l2, l3] [.int y, .int x, v2, v3, v4, v5, v6, v7, v8] m Q ↔ AW d 289 425 [l0, l1, l2, l3] [.int (x + y), v2, v3, v4, v5, v6, v7, v8] m Q := A_iadd hB_L_law dL_law_424
theorem dL_law_425 : decode cL_law 425 = .ok (.iaload, 1) := by decide +kernel
theorem tL_law_425 {d : Nat} {l0 l1 l2 l3 : Option Value} {v2 v3 v4 v5 v6 v7 : Value} {i : Int32} {a : Nat} {m : jmM} {Q : Option Value → jmM → Prop} : AW d 289 425 [l0, l1, l2, l3] [.int i, .ref a, v2, v3, v4, v5, v6, v7] m Q ↔ (((mS m a).1 = 20 ∨ a = jScr) ∧ jIx i (mS m a).2) ∧ AW d 289 426 [l0, l1, l2, l3] [.int (mI m a (jx i)), v2, v3, v4, v5, v6, v7] m Q := A_iaload hB_L_law dL_law_425
theorem dL_law_426 : decode cL_law 426 = .ok (.aload_n 0, 1) := by decide +kernel
theorem tL_law_426 {d : Nat} {l1 l2 l3 : Option Value} {v0 v1 v2 v3 v4 v5 v6 : Value} {x : Nat} {m : jmM} {Q : Option Value → jmM → Prop} : AW d 289 426 [some (.ref x), l1, l2, l3] [v0, v1, v2, v3, v4, v5, v6] m Q ↔ AW d 289 427 [some (.ref x), l1, l2, l3] [.ref x, v0, v1, v2, v3, v4, v5, v6] m Q := A_aload_n hB_L_law dL_law_426 rfl
theorem dL_law_427 : decode cL_law 427 = .ok (.iload_n 3, 1) := by decide +kernel
theorem tL_law_427 {d : Nat} {l0 l1 l2 : Option Value} {v0 v1 v2 v3 v4 v5 v6 v7 : Value} {x : Int32} {m : jmM} {Q : Option Value → jmM → Prop} : AW d 289 427 [l0, l1, l2, some (.int x)] [v0, v1, v2, v3, v4, v5, v6, v7] m Q ↔ AW d 289 428 [l0, l1, l2, some (.int x)] [.int x, v0, v1, v2, v3, v4, v5, v6, v7] m Q := A_iload_n hB_L_law dL_law_427 rfl
theorem dL_law_428 : decode cL_law 428 = .ok (.bipush 6, 2) := by decide +kernel
theorem tL_law_428 {d : Nat} {l0 l1 l2 l3 : Option Value} {v0 v1 v2 v3 v4 v5 v6 v7 v8 : Value} {m : jmM} {Q : Option Value → jmM → Prop} : AW d 289 428 [l0, l1, l2, l3] [v0, v1, v2, v3, v4, v5, v6, v7, v8] m Q ↔ AW d 289 430 [l0, l1, l2, l3] [.int 6, v0, v1, v2, v3, v4, v5, v6, v7, v8] m Q := A_bipush hB_L_law dL_law_428 rfl
theorem dL_law_430 : decode cL_law 430 = .ok (.iadd, 1) := by decide +kernel
theorem tL_law_430 {d : Nat} {l0 l1 l2 l3 : Option Value} {v2 v3 v4 v5 v6 v7 v8 v9 : Value} {x y : Int32} {m : jmM} {Q : Option Value → jmM → Prop} : AW d 289 430 [l0, l1, l2, l3] [.int y, .int x, v2, v3, v4, v5, v6, v7, v8, v9] m Q ↔ AW d 289 431 [l0, l1, l2, l3] [.int (x + y), v2, v3, v4, v5, v6, v7, v8, v9] m Q := A_iadd hB_L_law dL_law_430
theorem dL_law_431 : decode cL_law 431 = .ok (.iaload, 1) := by decide +kernel
theorem tL_law_431 {d : Nat} {l0 l1 l2 l3 : Option Value} {v2 v3 v4 v5 v6 v7 v8 : Value} {i : Int32} {a : Nat} {m : jmM} {Q : Option Value → jmM → Prop} : AW d 289 431 [l0, l1, l2, l3] [.int i, .ref a, v2, v3, v4, v5, v6, v7, v8] m Q ↔ (((mS m a).1 = 20 ∨ a = jScr) ∧ jIx i (mS m a).2) ∧ AW d 289 432 [l0, l1, l2, l3] [.int (mI m a (jx i)), v2, v3, v4, v5, v6, v7, v8] m Q := A_iaload hB_L_law dL_law_431
theorem dL_law_432 : decode cL_law 432 = .ok (.aload_n 0, 1) := by decide +kernel
theorem tL_law_432 {d : Nat} {l1 l2 l3 : Option Value} {v0 v1 v2 v3 v4 v5 v6 v7 : Value} {x : Nat} {m : jmM} {Q : Option Value → jmM → Prop} : AW d 289 432 [some (.ref x), l1, l2, l3] [v0, v1, v2, v3, v4, v5, v6, v7] m Q ↔ AW d 289 433 [some (.ref x), l1, l2, l3] [.ref x, v0, v1, v2, v3, v4, v5, v6, v7] m Q := A_aload_n hB_L_law dL_law_432 rfl
theorem dL_law_433 : decode cL_law 433 = .ok (.iload_n 3, 1) := by decide +kernel
theorem tL_law_433 {d : Nat} {l0 l1 l2 : Option Value} {v0 v1 v2 v3 v4 v5 v6 v7 v8 : Value} {x : Int32} {m : jmM} {Q : Option Value → jmM → Prop} : AW d 289 433 [l0, l1, l2, some (.int x)] [v0, v1, v2, v3, v4, v5, v6, v7, v8] m Q ↔ AW d 289 434 [l0, l1, l2, some (.int x)] [.int x, v0, v1, v2, v3, v4, v5, v6, v7, v8] m Q := A_iload_n hB_L_law dL_law_433 rfl
theorem dL_law_434 : decode cL_law 434 = .ok (.bipush 7, 2) := by decide +kernel
theorem tL_law_434 {d : Nat} {l0 l1 l2 l3 : Option Value} {v0 v1 v2 v3 v4 v5 v6 v7 v8 v9 : Value} {m : jmM} {Q : Option Value → jmM → Prop} : AW d 289 434 [l0, l1, l2, l3] [v0, v1, v2, v3, v4, v5, v6, v7, v8, v9] m Q ↔ AW d 289 436 [l0, l1, l2, l3] [.int 7, v0, v1, v2, v3, v4, v5, v6, v7, v8, v9] m Q := A_bipush hB_L_law dL_law_434 rfl
theorem dL_law_436 : decode cL_law 436 = .ok (.iadd, 1) := by decide +kernel
theorem tL_law_436 {d : Nat} {l0 l1 l2 l3 : Option Value} {v2 v3 v4 v5 v6 v7 v8 v9 v10 : Value} {x y : Int32} {m : jmM} {Q : Option Value → jmM → Prop} : AW d 289 436 [l0, l1, l2, l3] [.int y, .int x, v2, v3, v4, v5, v6, v7, v8, v9, v10] m Q ↔ AW d 289 437 [l0, l1, l2, l3] [.int (x + y), v2, v3, v4, v5, v6, v7, v8, v9, v10] m Q := A_iadd hB_L_law dL_law_436
theorem dL_law_437 : decode cL_law 437 = .ok (.iaload, 1) := by decide +kernel
theorem tL_law_437 {d : Nat} {l0 l1 l2 l3 : Option Value} {v2 v3 v4 v5 v6 v7 v8 v9 : Value} {i : Int32} {a : Nat} {m : jmM} {Q : Option Value → jmM → Prop} : AW d 289 437 [l0, l1, l2, l3] [.int i, .ref a, v2, v3, v4, v5, v6, v7, v8, v9] m Q ↔ (((mS m a).1 = 20 ∨ a = jScr) ∧ jIx i (mS m a).2) ∧ AW d 289 438 [l0, l1, l2, l3] [.int (mI m a (jx i)), v2, v3, v4, v5, v6, v7, v8, v9] m Q := A_iaload hB_L_law dL_law_437
theorem dL_law_438 : decode cL_law 438 = .ok (.aload_n 0, 1) := by decide +kernel
theorem tL_law_438 {d : Nat} {l1 l2 l3 : Option Value} {v0 v1 v2 v3 v4 v5 v6 v7 v8 : Value} {x : Nat} {m : jmM} {Q : Option Value → jmM → Prop} : AW d 289 438 [some (.ref x), l1, l2, l3] [v0, v1, v2, v3, v4, v5, v6, v7, v8] m Q ↔ AW d 289 439 [some (.ref x), l1, l2, l3] [.ref x, v0, v1, v2, v3, v4, v5, v6, v7, v8] m Q := A_aload_n hB_L_law dL_law_438 rfl
theorem dL_law_439 : decode cL_law 439 = .ok (.iload_n 3, 1) := by decide +kernel
theorem tL_law_439 {d : Nat} {l0 l1 l2 : Option Value} {v0 v1 v2 v3 v4 v5 v6 v7 v8 v9 : Value} {x : Int32} {m : jmM} {Q : Option Value → jmM → Prop} : AW d 289 439 [l0, l1, l2, some (.int x)] [v0, v1, v2, v3, v4, v5, v6, v7, v8, v9] m Q ↔ AW d 289 440 [l0, l1, l2, some (.int x)] [.int x, v0, v1, v2, v3, v4, v5, v6, v7, v8, v9] m Q := A_iload_n hB_L_law dL_law_439 rfl
theorem dL_law_440 : decode cL_law 440 = .ok (.bipush 8, 2) := by decide +kernel
theorem tL_law_440 {d : Nat} {l0 l1 l2 l3 : Option Value} {v0 v1 v2 v3 v4 v5 v6 v7 v8 v9 v10 : Value} {m : jmM} {Q : Option Value → jmM → Prop} : AW d 289 440 [l0, l1, l2, l3] [v0, v1, v2, v3, v4, v5, v6, v7, v8, v9, v10] m Q ↔ AW d 289 442 [l0, l1, l2, l3] [.int 8, v0, v1, v2, v3, v4, v5, v6, v7, v8, v9, v10] m Q := A_bipush hB_L_law dL_law_440 rfl
theorem dL_law_442 : decode cL_law 442 = .ok (.iadd, 1) := by decide +kernel
theorem tL_law_442 {d : Nat} {l0 l1 l2 l3 : Option Value} {v2 v3 v4 v5 v6 v7 v8 v9 v10 v11 : Value} {x y : Int32} {m : jmM} {Q : Option Value → jmM → Prop} : AW d 289 442 [l0, l1, l2, l3] [.int y, .int x, v2, v3, v4, v5, v6, v7, v8, v9, v10, v11] m Q ↔ AW d 289 443 [l0, l1, l2, l3] [.int (x + y), v2, v3, v4, v5, v6, v7, v8, v9, v10, v11] m Q := A_iadd hB_L_law dL_law_442
theorem dL_law_443 : decode cL_law 443 = .ok (.iaload, 1) := by decide +kernel
theorem tL_law_443 {d : Nat} {l0 l1 l2 l3 : Option Value} {v2 v3 v4 v5 v6 v7 v8 v9 v10 : Value} {i : Int32} {a : Nat} {m : jmM} {Q : Option Value → jmM → Prop} : AW d 289 443 [l0, l1, l2, l3] [.int i, .ref a, v2, v3, v4, v5, v6, v7, v8, v9, v10] m Q ↔ (((mS m a).1 = 20 ∨ a = jScr) ∧ jIx i (mS m a).2) ∧ AW d 289 444 [l0, l1, l2, l3] [.int (mI m a (jx i)), v2, v3, v4, v5, v6, v7, v8, v9, v10] m Q := A_iaload hB_L_law dL_law_443
theorem dL_law_444 : decode cL_law 444 = .ok (.aload_n 0, 1) := by decide +kernel
theorem tL_law_444 {d : Nat} {l1 l2 l3 : Option Value} {v0 v1 v2 v3 v4 v5 v6 v7 v8 v9 : Value} {x : Nat} {m : jmM} {Q : Option Value → jmM → Prop} : AW d 289 444 [some (.ref x), l1, l2, l3] [v0, v1, v2, v3, v4, v5, v6, v7, v8, v9] m Q ↔ AW d 289 445 [some (.ref x), l1, l2, l3] [.ref x, v0, v1, v2, v3, v4, v5, v6, v7, v8, v9] m Q := A_aload_n hB_L_law dL_law_444 rfl
theorem dL_law_445 : decode cL_law 445 = .ok (.iload_n 3, 1) := by decide +kernel
theorem tL_law_445 {d : Nat} {l0 l1 l2 : Option Value} {v0 v1 v2 v3 v4 v5 v6 v7 v8 v9 v10 : Value} {x : Int32} {m : jmM} {Q : Option Value → jmM → Prop} : AW d 289 445 [l0, l1, l2, some (.int x)] [v0, v1, v2, v3, v4, v5, v6, v7, v8, v9, v10] m Q ↔ AW d 289 446 [l0, l1, l2, some (.int x)] [.int x, v0, v1, v2, v3, v4, v5, v6, v7, v8, v9, v10] m Q := A_iload_n hB_L_law dL_law_445 rfl
theorem dL_law_446 : decode cL_law 446 = .ok (.bipush 9, 2) := by decide +kernel
theorem tL_law_446 {d : Nat} {l0 l1 l2 l3 : Option Value} {v0 v1 v2 v3 v4 v5 v6 v7 v8 v9 v10 v11 : Value} {m : jmM} {Q : Option Value → jmM → Prop} : AW d 289 446 [l0, l1, l2, l3] [v0, v1, v2, v3, v4, v5, v6, v7, v8, v9, v10, v11] m Q ↔ AW d 289 448 [l0, l1, l2, l3] [.int 9, v0, v1, v2, v3, v4, v5, v6, v7, v8, v9, v10, v11] m Q := A_bipush hB_L_law dL_law_446 rfl
theorem dL_law_448 : decode cL_law 448 = .ok (.iadd, 1) := by decide +kernel
theorem tL_law_448 {d : Nat} {l0 l1 l2 l3 : Option Value} {v2 v3 v4 v5 v6 v7 v8 v9 v10 v11 v12 : Value} {x y : Int32} {m : jmM} {Q : Option Value → jmM → Prop} : AW d 289 448 [l0, l1, l2, l3] [.int y, .int x, v2, v3, v4, v5, v6, v7, v8, v9, v10, v11, v12] m Q ↔ AW d 289 449 [l0, l1, l2, l3] [.int (x + y), v2, v3, v4, v5, v6, v7, v8, v9, v10, v11, v12] m Q := A_iadd hB_L_law dL_law_448
theorem dL_law_449 : decode cL_law 449 = .ok (.iaload, 1) := by decide +kernel
theorem tL_law_449 {d : Nat} {l0 l1 l2 l3 : Option Value} {v2 v3 v4 v5 v6 v7 v8 v9 v10 v11 : Value} {i : Int32} {a : Nat} {m : jmM} {Q : Option Value → jmM → Prop} : AW d 289 449 [l0, l1, l2, l3] [.int i, .ref a, v2, v3, v4, v5, v6, v7, v8, v9, v10, v11] m Q ↔ (((mS m a).1 = 20 ∨ a = jScr) ∧ jIx i (mS m a).2) ∧ AW d 289 450 [l0, l1, l2, l3] [.int (mI m a (jx i)), v2, v3, v4, v5, v6, v7, v8, v9, v10, v11] m Q := A_iaload hB_L_law dL_law_449
theorem dL_law_450 : decode cL_law 450 = .ok (.invokevirtual 41, 3) := by decide +kernel
theorem tL_law_450 {d : Nat} {l0 l1 l2 l3 : Option Value} {v10 : Value} {y0 y1 y2 y3 y4 y5 y6 y7 y8 : Value} {a : Nat} {m : jmM} {Q : Option Value → jmM → Prop} : AW d 289 450 [l0, l1, l2, l3] [y0, y1, y2, y3, y4, y5, y6, y7, y8, .ref a, v10] m Q ↔ (mS m a).1 = 12 ∧ CC d 231 [.ref a, y8, y7, y6, y5, y4, y3, y2, y1, y0] m (jK d 289 453 [l0, l1, l2, l3] [v10] Q) := A_callV hB_L_law dL_law_450 hO_L_law fS_13_41 ⟨Nat.le_of_ble_eq_true rfl, Nat.le_of_ble_eq_true rfl⟩ rfl rfl rfl
theorem dL_law_453 : decode cL_law 453 = .ok (.if_icmp .eq 969, 3) := by decide +kernel
theorem tL_law_453 {d : Nat} {l0 l1 l2 l3 : Option Value} {x y : Int32} {m : jmM} {Q : Option Value → jmM → Prop} : AW d 289 453 [l0, l1, l2, l3] [.int y, .int x] m Q ↔ if x = y then AW d 289 1422 [l0, l1, l2, l3] [] m Q else AW d 289 456 [l0, l1, l2, l3] [] m Q := A_icmp_eq hB_L_law dL_law_453 (by decide)
theorem dL_law_456 : decode cL_law 456 = .ok (.iconst 0, 1) := by decide +kernel
theorem tL_law_456 {d : Nat} {l0 l1 l2 l3 : Option Value} {m : jmM} {Q : Option Value → jmM → Prop} : AW d 289 456 [l0, l1, l2, l3] [] m Q ↔ AW d 289 457 [l0, l1, l2, l3] [.int 0] m Q := A_iconst hB_L_law dL_law_456 (by decide)
theorem dL_law_457 : decode cL_law 457 = .ok (.ireturn, 1) := by decide +kernel
theorem tL_law_457 {d : Nat} {l0 l1 l2 l3 : Option Value} {x : Int32} {m : jmM} {Q : Option Value → jmM → Prop} : AW d 289 457 [l0, l1, l2, l3] [.int x] m Q ↔ jBool x ∧ Q (some (.int x)) m := A_zreturn hB_L_law dL_law_457 hR_L_law
theorem dL_law_458 : decode cL_law 458 = .ok (.aload_n 1, 1) := by decide +kernel
theorem tL_law_458 {d : Nat} {l0 l2 l3 : Option Value} {x : Nat} {m : jmM} {Q : Option Value → jmM → Prop} : AW d 289 458 [l0, some (.ref x), l2, l3] [] m Q ↔ AW d 289 459 [l0, some (.ref x), l2, l3] [.ref x] m Q := A_aload_n hB_L_law dL_law_458 rfl
theorem dL_law_459 : decode cL_law 459 = .ok (.aload_n 0, 1) := by decide +kernel
theorem tL_law_459 {d : Nat} {l1 l2 l3 : Option Value} {v0 : Value} {x : Nat} {m : jmM} {Q : Option Value → jmM → Prop} : AW d 289 459 [some (.ref x), l1, l2, l3] [v0] m Q ↔ AW d 289 460 [some (.ref x), l1, l2, l3] [.ref x, v0] m Q := A_aload_n hB_L_law dL_law_459 rfl
theorem dL_law_460 : decode cL_law 460 = .ok (.iload_n 3, 1) := by decide +kernel
theorem tL_law_460 {d : Nat} {l0 l1 l2 : Option Value} {v0 v1 : Value} {x : Int32} {m : jmM} {Q : Option Value → jmM → Prop} : AW d 289 460 [l0, l1, l2, some (.int x)] [v0, v1] m Q ↔ AW d 289 461 [l0, l1, l2, some (.int x)] [.int x, v0, v1] m Q := A_iload_n hB_L_law dL_law_460 rfl
theorem dL_law_461 : decode cL_law 461 = .ok (.iconst 1, 1) := by decide +kernel
theorem tL_law_461 {d : Nat} {l0 l1 l2 l3 : Option Value} {v0 v1 v2 : Value} {m : jmM} {Q : Option Value → jmM → Prop} : AW d 289 461 [l0, l1, l2, l3] [v0, v1, v2] m Q ↔ AW d 289 462 [l0, l1, l2, l3] [.int 1, v0, v1, v2] m Q := A_iconst hB_L_law dL_law_461 (by decide)
theorem dL_law_462 : decode cL_law 462 = .ok (.iadd, 1) := by decide +kernel
theorem tL_law_462 {d : Nat} {l0 l1 l2 l3 : Option Value} {v2 v3 : Value} {x y : Int32} {m : jmM} {Q : Option Value → jmM → Prop} : AW d 289 462 [l0, l1, l2, l3] [.int y, .int x, v2, v3] m Q ↔ AW d 289 463 [l0, l1, l2, l3] [.int (x + y), v2, v3] m Q := A_iadd hB_L_law dL_law_462
theorem dL_law_463 : decode cL_law 463 = .ok (.iaload, 1) := by decide +kernel
theorem tL_law_463 {d : Nat} {l0 l1 l2 l3 : Option Value} {v2 : Value} {i : Int32} {a : Nat} {m : jmM} {Q : Option Value → jmM → Prop} : AW d 289 463 [l0, l1, l2, l3] [.int i, .ref a, v2] m Q ↔ (((mS m a).1 = 20 ∨ a = jScr) ∧ jIx i (mS m a).2) ∧ AW d 289 464 [l0, l1, l2, l3] [.int (mI m a (jx i)), v2] m Q := A_iaload hB_L_law dL_law_463
theorem dL_law_464 : decode cL_law 464 = .ok (.invokevirtual 42, 3) := by decide +kernel
theorem tL_law_464 {d : Nat} {l0 l1 l2 l3 : Option Value} {y0 : Value} {a : Nat} {m : jmM} {Q : Option Value → jmM → Prop} : AW d 289 464 [l0, l1, l2, l3] [y0, .ref a] m Q ↔ (mS m a).1 = 11 ∧ CC d 147 [.ref a, y0] m (jK d 289 467 [l0, l1, l2, l3] [] Q) := A_callV hB_L_law dL_law_464 hO_L_law fS_13_42 ⟨Nat.le_of_ble_eq_true rfl, Nat.le_of_ble_eq_true rfl⟩ rfl rfl rfl
theorem dL_law_467 : decode cL_law 467 = .ok (.aload_n 2, 1) := by decide +kernel
theorem tL_law_467 {d : Nat} {l0 l1 l3 : Option Value} {v0 : Value} {x : Nat} {m : jmM} {Q : Option Value → jmM → Prop} : AW d 289 467 [l0, l1, some (.ref x), l3] [v0] m Q ↔ AW d 289 468 [l0, l1, some (.ref x), l3] [.ref x, v0] m Q := A_aload_n hB_L_law dL_law_467 rfl
theorem dL_law_468 : decode cL_law 468 = .ok (.aload_n 0, 1) := by decide +kernel
theorem tL_law_468 {d : Nat} {l1 l2 l3 : Option Value} {v0 v1 : Value} {x : Nat} {m : jmM} {Q : Option Value → jmM → Prop} : AW d 289 468 [some (.ref x), l1, l2, l3] [v0, v1] m Q ↔ AW d 289 469 [some (.ref x), l1, l2, l3] [.ref x, v0, v1] m Q := A_aload_n hB_L_law dL_law_468 rfl
theorem dL_law_469 : decode cL_law 469 = .ok (.iload_n 3, 1) := by decide +kernel
theorem tL_law_469 {d : Nat} {l0 l1 l2 : Option Value} {v0 v1 v2 : Value} {x : Int32} {m : jmM} {Q : Option Value → jmM → Prop} : AW d 289 469 [l0, l1, l2, some (.int x)] [v0, v1, v2] m Q ↔ AW d 289 470 [l0, l1, l2, some (.int x)] [.int x, v0, v1, v2] m Q := A_iload_n hB_L_law dL_law_469 rfl
theorem dL_law_470 : decode cL_law 470 = .ok (.iconst 1, 1) := by decide +kernel
theorem tL_law_470 {d : Nat} {l0 l1 l2 l3 : Option Value} {v0 v1 v2 v3 : Value} {m : jmM} {Q : Option Value → jmM → Prop} : AW d 289 470 [l0, l1, l2, l3] [v0, v1, v2, v3] m Q ↔ AW d 289 471 [l0, l1, l2, l3] [.int 1, v0, v1, v2, v3] m Q := A_iconst hB_L_law dL_law_470 (by decide)
theorem dL_law_471 : decode cL_law 471 = .ok (.iadd, 1) := by decide +kernel
theorem tL_law_471 {d : Nat} {l0 l1 l2 l3 : Option Value} {v2 v3 v4 : Value} {x y : Int32} {m : jmM} {Q : Option Value → jmM → Prop} : AW d 289 471 [l0, l1, l2, l3] [.int y, .int x, v2, v3, v4] m Q ↔ AW d 289 472 [l0, l1, l2, l3] [.int (x + y), v2, v3, v4] m Q := A_iadd hB_L_law dL_law_471
theorem dL_law_472 : decode cL_law 472 = .ok (.iaload, 1) := by decide +kernel
theorem tL_law_472 {d : Nat} {l0 l1 l2 l3 : Option Value} {v2 v3 : Value} {i : Int32} {a : Nat} {m : jmM} {Q : Option Value → jmM → Prop} : AW d 289 472 [l0, l1, l2, l3] [.int i, .ref a, v2, v3] m Q ↔ (((mS m a).1 = 20 ∨ a = jScr) ∧ jIx i (mS m a).2) ∧ AW d 289 473 [l0, l1, l2, l3] [.int (mI m a (jx i)), v2, v3] m Q := A_iaload hB_L_law dL_law_472
theorem dL_law_473 : decode cL_law 473 = .ok (.invokevirtual 46, 3) := by decide +kernel
theorem tL_law_473 {d : Nat} {l0 l1 l2 l3 : Option Value} {v2 : Value} {y0 : Value} {a : Nat} {m : jmM} {Q : Option Value → jmM → Prop} : AW d 289 473 [l0, l1, l2, l3] [y0, .ref a, v2] m Q ↔ (mS m a).1 = 12 ∧ CC d 232 [.ref a, y0] m (jK d 289 476 [l0, l1, l2, l3] [v2] Q) := A_callV hB_L_law dL_law_473 hO_L_law fS_13_46 ⟨Nat.le_of_ble_eq_true rfl, Nat.le_of_ble_eq_true rfl⟩ rfl rfl rfl
theorem dL_law_476 : decode cL_law 476 = .ok (.if_icmp .eq 946, 3) := by decide +kernel
theorem tL_law_476 {d : Nat} {l0 l1 l2 l3 : Option Value} {x y : Int32} {m : jmM} {Q : Option Value → jmM → Prop} : AW d 289 476 [l0, l1, l2, l3] [.int y, .int x] m Q ↔ if x = y then AW d 289 1422 [l0, l1, l2, l3] [] m Q else AW d 289 479 [l0, l1, l2, l3] [] m Q := A_icmp_eq hB_L_law dL_law_476 (by decide)
theorem dL_law_479 : decode cL_law 479 = .ok (.iconst 0, 1) := by decide +kernel
theorem tL_law_479 {d : Nat} {l0 l1 l2 l3 : Option Value} {m : jmM} {Q : Option Value → jmM → Prop} : AW d 289 479 [l0, l1, l2, l3] [] m Q ↔ AW d 289 480 [l0, l1, l2, l3] [.int 0] m Q := A_iconst hB_L_law dL_law_479 (by decide)
theorem dL_law_480 : decode cL_law 480 = .ok (.ireturn, 1) := by decide +kernel
theorem tL_law_480 {d : Nat} {l0 l1 l2 l3 : Option Value} {x : Int32} {m : jmM} {Q : Option Value → jmM → Prop} : AW d 289 480 [l0, l1, l2, l3] [.int x] m Q ↔ jBool x ∧ Q (some (.int x)) m := A_zreturn hB_L_law dL_law_480 hR_L_law
theorem dL_law_481 : decode cL_law 481 = .ok (.aload_n 1, 1) := by decide +kernel
theorem tL_law_481 {d : Nat} {l0 l2 l3 : Option Value} {x : Nat} {m : jmM} {Q : Option Value → jmM → Prop} : AW d 289 481 [l0, some (.ref x), l2, l3] [] m Q ↔ AW d 289 482 [l0, some (.ref x), l2, l3] [.ref x] m Q := A_aload_n hB_L_law dL_law_481 rfl
theorem dL_law_482 : decode cL_law 482 = .ok (.aload_n 0, 1) := by decide +kernel
theorem tL_law_482 {d : Nat} {l1 l2 l3 : Option Value} {v0 : Value} {x : Nat} {m : jmM} {Q : Option Value → jmM → Prop} : AW d 289 482 [some (.ref x), l1, l2, l3] [v0] m Q ↔ AW d 289 483 [some (.ref x), l1, l2, l3] [.ref x, v0] m Q := A_aload_n hB_L_law dL_law_482 rfl
theorem dL_law_483 : decode cL_law 483 = .ok (.iload_n 3, 1) := by decide +kernel
theorem tL_law_483 {d : Nat} {l0 l1 l2 : Option Value} {v0 v1 : Value} {x : Int32} {m : jmM} {Q : Option Value → jmM → Prop} : AW d 289 483 [l0, l1, l2, some (.int x)] [v0, v1] m Q ↔ AW d 289 484 [l0, l1, l2, some (.int x)] [.int x, v0, v1] m Q := A_iload_n hB_L_law dL_law_483 rfl
theorem dL_law_484 : decode cL_law 484 = .ok (.iconst 1, 1) := by decide +kernel
theorem tL_law_484 {d : Nat} {l0 l1 l2 l3 : Option Value} {v0 v1 v2 : Value} {m : jmM} {Q : Option Value → jmM → Prop} : AW d 289 484 [l0, l1, l2, l3] [v0, v1, v2] m Q ↔ AW d 289 485 [l0, l1, l2, l3] [.int 1, v0, v1, v2] m Q := A_iconst hB_L_law dL_law_484 (by decide)
theorem dL_law_485 : decode cL_law 485 = .ok (.iadd, 1) := by decide +kernel
theorem tL_law_485 {d : Nat} {l0 l1 l2 l3 : Option Value} {v2 v3 : Value} {x y : Int32} {m : jmM} {Q : Option Value → jmM → Prop} : AW d 289 485 [l0, l1, l2, l3] [.int y, .int x, v2, v3] m Q ↔ AW d 289 486 [l0, l1, l2, l3] [.int (x + y), v2, v3] m Q := A_iadd hB_L_law dL_law_485
theorem dL_law_486 : decode cL_law 486 = .ok (.iaload, 1) := by decide +kernel
theorem tL_law_486 {d : Nat} {l0 l1 l2 l3 : Option Value} {v2 : Value} {i : Int32} {a : Nat} {m : jmM} {Q : Option Value → jmM → Prop} : AW d 289 486 [l0, l1, l2, l3] [.int i, .ref a, v2] m Q ↔ (((mS m a).1 = 20 ∨ a = jScr) ∧ jIx i (mS m a).2) ∧ AW d 289 487 [l0, l1, l2, l3] [.int (mI m a (jx i)), v2] m Q := A_iaload hB_L_law dL_law_486
theorem dL_law_487 : decode cL_law 487 = .ok (.invokevirtual 47, 3) := by decide +kernel
theorem tL_law_487 {d : Nat} {l0 l1 l2 l3 : Option Value} {y0 : Value} {a : Nat} {m : jmM} {Q : Option Value → jmM → Prop} : AW d 289 487 [l0, l1, l2, l3] [y0, .ref a] m Q ↔ (mS m a).1 = 11 ∧ CC d 148 [.ref a, y0] m (jK d 289 490 [l0, l1, l2, l3] [] Q) := A_callV hB_L_law dL_law_487 hO_L_law fS_13_47 ⟨Nat.le_of_ble_eq_true rfl, Nat.le_of_ble_eq_true rfl⟩ rfl rfl rfl
theorem dL_law_490 : decode cL_law 490 = .ok (.aload_n 2, 1) := by decide +kernel
theorem tL_law_490 {d : Nat} {l0 l1 l3 : Option Value} {v0 : Value} {x : Nat} {m : jmM} {Q : Option Value → jmM → Prop} : AW d 289 490 [l0, l1, some (.ref x), l3] [v0] m Q ↔ AW d 289 491 [l0, l1, some (.ref x), l3] [.ref x, v0] m Q := A_aload_n hB_L_law dL_law_490 rfl
theorem dL_law_491 : decode cL_law 491 = .ok (.aload_n 0, 1) := by decide +kernel
theorem tL_law_491 {d : Nat} {l1 l2 l3 : Option Value} {v0 v1 : Value} {x : Nat} {m : jmM} {Q : Option Value → jmM → Prop} : AW d 289 491 [some (.ref x), l1, l2, l3] [v0, v1] m Q ↔ AW d 289 492 [some (.ref x), l1, l2, l3] [.ref x, v0, v1] m Q := A_aload_n hB_L_law dL_law_491 rfl
theorem dL_law_492 : decode cL_law 492 = .ok (.iload_n 3, 1) := by decide +kernel
theorem tL_law_492 {d : Nat} {l0 l1 l2 : Option Value} {v0 v1 v2 : Value} {x : Int32} {m : jmM} {Q : Option Value → jmM → Prop} : AW d 289 492 [l0, l1, l2, some (.int x)] [v0, v1, v2] m Q ↔ AW d 289 493 [l0, l1, l2, some (.int x)] [.int x, v0, v1, v2] m Q := A_iload_n hB_L_law dL_law_492 rfl
theorem dL_law_493 : decode cL_law 493 = .ok (.iconst 1, 1) := by decide +kernel
theorem tL_law_493 {d : Nat} {l0 l1 l2 l3 : Option Value} {v0 v1 v2 v3 : Value} {m : jmM} {Q : Option Value → jmM → Prop} : AW d 289 493 [l0, l1, l2, l3] [v0, v1, v2, v3] m Q ↔ AW d 289 494 [l0, l1, l2, l3] [.int 1, v0, v1, v2, v3] m Q := A_iconst hB_L_law dL_law_493 (by decide)
theorem dL_law_494 : decode cL_law 494 = .ok (.iadd, 1) := by decide +kernel
theorem tL_law_494 {d : Nat} {l0 l1 l2 l3 : Option Value} {v2 v3 v4 : Value} {x y : Int32} {m : jmM} {Q : Option Value → jmM → Prop} : AW d 289 494 [l0, l1, l2, l3] [.int y, .int x, v2, v3, v4] m Q ↔ AW d 289 495 [l0, l1, l2, l3] [.int (x + y), v2, v3, v4] m Q := A_iadd hB_L_law dL_law_494
theorem dL_law_495 : decode cL_law 495 = .ok (.iaload, 1) := by decide +kernel
theorem tL_law_495 {d : Nat} {l0 l1 l2 l3 : Option Value} {v2 v3 : Value} {i : Int32} {a : Nat} {m : jmM} {Q : Option Value → jmM → Prop} : AW d 289 495 [l0, l1, l2, l3] [.int i, .ref a, v2, v3] m Q ↔ (((mS m a).1 = 20 ∨ a = jScr) ∧ jIx i (mS m a).2) ∧ AW d 289 496 [l0, l1, l2, l3] [.int (mI m a (jx i)), v2, v3] m Q := A_iaload hB_L_law dL_law_495
theorem dL_law_496 : decode cL_law 496 = .ok (.invokevirtual 50, 3) := by decide +kernel
theorem tL_law_496 {d : Nat} {l0 l1 l2 l3 : Option Value} {v2 : Value} {y0 : Value} {a : Nat} {m : jmM} {Q : Option Value → jmM → Prop} : AW d 289 496 [l0, l1, l2, l3] [y0, .ref a, v2] m Q ↔ (mS m a).1 = 12 ∧ CC d 240 [.ref a, y0] m (jK d 289 499 [l0, l1, l2, l3] [v2] Q) := A_callV hB_L_law dL_law_496 hO_L_law fS_13_50 ⟨Nat.le_of_ble_eq_true rfl, Nat.le_of_ble_eq_true rfl⟩ rfl rfl rfl
theorem dL_law_499 : decode cL_law 499 = .ok (.if_icmp .eq 923, 3) := by decide +kernel
theorem tL_law_499 {d : Nat} {l0 l1 l2 l3 : Option Value} {x y : Int32} {m : jmM} {Q : Option Value → jmM → Prop} : AW d 289 499 [l0, l1, l2, l3] [.int y, .int x] m Q ↔ if x = y then AW d 289 1422 [l0, l1, l2, l3] [] m Q else AW d 289 502 [l0, l1, l2, l3] [] m Q := A_icmp_eq hB_L_law dL_law_499 (by decide)
theorem dL_law_502 : decode cL_law 502 = .ok (.iconst 0, 1) := by decide +kernel
theorem tL_law_502 {d : Nat} {l0 l1 l2 l3 : Option Value} {m : jmM} {Q : Option Value → jmM → Prop} : AW d 289 502 [l0, l1, l2, l3] [] m Q ↔ AW d 289 503 [l0, l1, l2, l3] [.int 0] m Q := A_iconst hB_L_law dL_law_502 (by decide)
theorem dL_law_503 : decode cL_law 503 = .ok (.ireturn, 1) := by decide +kernel
theorem tL_law_503 {d : Nat} {l0 l1 l2 l3 : Option Value} {x : Int32} {m : jmM} {Q : Option Value → jmM → Prop} : AW d 289 503 [l0, l1, l2, l3] [.int x] m Q ↔ jBool x ∧ Q (some (.int x)) m := A_zreturn hB_L_law dL_law_503 hR_L_law
theorem dL_law_504 : decode cL_law 504 = .ok (.aload_n 1, 1) := by decide +kernel
theorem tL_law_504 {d : Nat} {l0 l2 l3 : Option Value} {x : Nat} {m : jmM} {Q : Option Value → jmM → Prop} : AW d 289 504 [l0, some (.ref x), l2, l3] [] m Q ↔ AW d 289 505 [l0, some (.ref x), l2, l3] [.ref x] m Q := A_aload_n hB_L_law dL_law_504 rfl
theorem dL_law_505 : decode cL_law 505 = .ok (.invokevirtual 51, 3) := by decide +kernel
theorem tL_law_505 {d : Nat} {l0 l1 l2 l3 : Option Value} {a : Nat} {m : jmM} {Q : Option Value → jmM → Prop} : AW d 289 505 [l0, l1, l2, l3] [.ref a] m Q ↔ (mS m a).1 = 11 ∧ CC d 149 [.ref a] m (jK d 289 508 [l0, l1, l2, l3] [] Q) := A_callV hB_L_law dL_law_505 hO_L_law fS_13_51 ⟨Nat.le_of_ble_eq_true rfl, Nat.le_of_ble_eq_true rfl⟩ rfl rfl rfl
theorem dL_law_508 : decode cL_law 508 = .ok (.aload_n 2, 1) := by decide +kernel
theorem tL_law_508 {d : Nat} {l0 l1 l3 : Option Value} {v0 : Value} {x : Nat} {m : jmM} {Q : Option Value → jmM → Prop} : AW d 289 508 [l0, l1, some (.ref x), l3] [v0] m Q ↔ AW d 289 509 [l0, l1, some (.ref x), l3] [.ref x, v0] m Q := A_aload_n hB_L_law dL_law_508 rfl
theorem dL_law_509 : decode cL_law 509 = .ok (.invokevirtual 54, 3) := by decide +kernel
theorem tL_law_509 {d : Nat} {l0 l1 l2 l3 : Option Value} {v1 : Value} {a : Nat} {m : jmM} {Q : Option Value → jmM → Prop} : AW d 289 509 [l0, l1, l2, l3] [.ref a, v1] m Q ↔ (mS m a).1 = 12 ∧ CC d 241 [.ref a] m (jK d 289 512 [l0, l1, l2, l3] [v1] Q) := A_callV hB_L_law dL_law_509 hO_L_law fS_13_54 ⟨Nat.le_of_ble_eq_true rfl, Nat.le_of_ble_eq_true rfl⟩ rfl rfl rfl
theorem dL_law_512 : decode cL_law 512 = .ok (.if_icmp .eq 910, 3) := by decide +kernel
theorem tL_law_512 {d : Nat} {l0 l1 l2 l3 : Option Value} {x y : Int32} {m : jmM} {Q : Option Value → jmM → Prop} : AW d 289 512 [l0, l1, l2, l3] [.int y, .int x] m Q ↔ if x = y then AW d 289 1422 [l0, l1, l2, l3] [] m Q else AW d 289 515 [l0, l1, l2, l3] [] m Q := A_icmp_eq hB_L_law dL_law_512 (by decide)
theorem dL_law_515 : decode cL_law 515 = .ok (.iconst 0, 1) := by decide +kernel
theorem tL_law_515 {d : Nat} {l0 l1 l2 l3 : Option Value} {m : jmM} {Q : Option Value → jmM → Prop} : AW d 289 515 [l0, l1, l2, l3] [] m Q ↔ AW d 289 516 [l0, l1, l2, l3] [.int 0] m Q := A_iconst hB_L_law dL_law_515 (by decide)
theorem dL_law_516 : decode cL_law 516 = .ok (.ireturn, 1) := by decide +kernel
theorem tL_law_516 {d : Nat} {l0 l1 l2 l3 : Option Value} {x : Int32} {m : jmM} {Q : Option Value → jmM → Prop} : AW d 289 516 [l0, l1, l2, l3] [.int x] m Q ↔ jBool x ∧ Q (some (.int x)) m := A_zreturn hB_L_law dL_law_516 hR_L_law
theorem dL_law_517 : decode cL_law 517 = .ok (.aload_n 1, 1) := by decide +kernel
theorem tL_law_517 {d : Nat} {l0 l2 l3 : Option Value} {x : Nat} {m : jmM} {Q : Option Value → jmM → Prop} : AW d 289 517 [l0, some (.ref x), l2, l3] [] m Q ↔ AW d 289 518 [l0, some (.ref x), l2, l3] [.ref x] m Q := A_aload_n hB_L_law dL_law_517 rfl
theorem dL_law_518 : decode cL_law 518 = .ok (.aload_n 0, 1) := by decide +kernel
theorem tL_law_518 {d : Nat} {l1 l2 l3 : Option Value} {v0 : Value} {x : Nat} {m : jmM} {Q : Option Value → jmM → Prop} : AW d 289 518 [some (.ref x), l1, l2, l3] [v0] m Q ↔ AW d 289 519 [some (.ref x), l1, l2, l3] [.ref x, v0] m Q := A_aload_n hB_L_law dL_law_518 rfl
theorem dL_law_519 : decode cL_law 519 = .ok (.iload_n 3, 1) := by decide +kernel
theorem tL_law_519 {d : Nat} {l0 l1 l2 : Option Value} {v0 v1 : Value} {x : Int32} {m : jmM} {Q : Option Value → jmM → Prop} : AW d 289 519 [l0, l1, l2, some (.int x)] [v0, v1] m Q ↔ AW d 289 520 [l0, l1, l2, some (.int x)] [.int x, v0, v1] m Q := A_iload_n hB_L_law dL_law_519 rfl
theorem dL_law_520 : decode cL_law 520 = .ok (.iconst 1, 1) := by decide +kernel
theorem tL_law_520 {d : Nat} {l0 l1 l2 l3 : Option Value} {v0 v1 v2 : Value} {m : jmM} {Q : Option Value → jmM → Prop} : AW d 289 520 [l0, l1, l2, l3] [v0, v1, v2] m Q ↔ AW d 289 521 [l0, l1, l2, l3] [.int 1, v0, v1, v2] m Q := A_iconst hB_L_law dL_law_520 (by decide)
theorem dL_law_521 : decode cL_law 521 = .ok (.iadd, 1) := by decide +kernel
theorem tL_law_521 {d : Nat} {l0 l1 l2 l3 : Option Value} {v2 v3 : Value} {x y : Int32} {m : jmM} {Q : Option Value → jmM → Prop} : AW d 289 521 [l0, l1, l2, l3] [.int y, .int x, v2, v3] m Q ↔ AW d 289 522 [l0, l1, l2, l3] [.int (x + y), v2, v3] m Q := A_iadd hB_L_law dL_law_521
theorem dL_law_522 : decode cL_law 522 = .ok (.iaload, 1) := by decide +kernel
theorem tL_law_522 {d : Nat} {l0 l1 l2 l3 : Option Value} {v2 : Value} {i : Int32} {a : Nat} {m : jmM} {Q : Option Value → jmM → Prop} : AW d 289 522 [l0, l1, l2, l3] [.int i, .ref a, v2] m Q ↔ (((mS m a).1 = 20 ∨ a = jScr) ∧ jIx i (mS m a).2) ∧ AW d 289 523 [l0, l1, l2, l3] [.int (mI m a (jx i)), v2] m Q := A_iaload hB_L_law dL_law_522
theorem dL_law_523 : decode cL_law 523 = .ok (.invokevirtual 55, 3) := by decide +kernel
theorem tL_law_523 {d : Nat} {l0 l1 l2 l3 : Option Value} {y0 : Value} {a : Nat} {m : jmM} {Q : Option Value → jmM → Prop} : AW d 289 523 [l0, l1, l2, l3] [y0, .ref a] m Q ↔ (mS m a).1 = 11 ∧ CC d 150 [.ref a, y0] m (jK d 289 526 [l0, l1, l2, l3] [] Q) := A_callV hB_L_law dL_law_523 hO_L_law fS_13_55 ⟨Nat.le_of_ble_eq_true rfl, Nat.le_of_ble_eq_true rfl⟩ rfl rfl rfl
theorem dL_law_526 : decode cL_law 526 = .ok (.aload_n 2, 1) := by decide +kernel
theorem tL_law_526 {d : Nat} {l0 l1 l3 : Option Value} {v0 : Value} {x : Nat} {m : jmM} {Q : Option Value → jmM → Prop} : AW d 289 526 [l0, l1, some (.ref x), l3] [v0] m Q ↔ AW d 289 527 [l0, l1, some (.ref x), l3] [.ref x, v0] m Q := A_aload_n hB_L_law dL_law_526 rfl
theorem dL_law_527 : decode cL_law 527 = .ok (.aload_n 0, 1) := by decide +kernel
theorem tL_law_527 {d : Nat} {l1 l2 l3 : Option Value} {v0 v1 : Value} {x : Nat} {m : jmM} {Q : Option Value → jmM → Prop} : AW d 289 527 [some (.ref x), l1, l2, l3] [v0, v1] m Q ↔ AW d 289 528 [some (.ref x), l1, l2, l3] [.ref x, v0, v1] m Q := A_aload_n hB_L_law dL_law_527 rfl
theorem dL_law_528 : decode cL_law 528 = .ok (.iload_n 3, 1) := by decide +kernel
theorem tL_law_528 {d : Nat} {l0 l1 l2 : Option Value} {v0 v1 v2 : Value} {x : Int32} {m : jmM} {Q : Option Value → jmM → Prop} : AW d 289 528 [l0, l1, l2, some (.int x)] [v0, v1, v2] m Q ↔ AW d 289 529 [l0, l1, l2, some (.int x)] [.int x, v0, v1, v2] m Q := A_iload_n hB_L_law dL_law_528 rfl
theorem dL_law_529 : decode cL_law 529 = .ok (.iconst 1, 1) := by decide +kernel
theorem tL_law_529 {d : Nat} {l0 l1 l2 l3 : Option Value} {v0 v1 v2 v3 : Value} {m : jmM} {Q : Option Value → jmM → Prop} : AW d 289 529 [l0, l1, l2, l3] [v0, v1, v2, v3] m Q ↔ AW d 289 530 [l0, l1, l2, l3] [.int 1, v0, v1, v2, v3] m Q := A_iconst hB_L_law dL_law_529 (by decide)
theorem dL_law_530 : decode cL_law 530 = .ok (.iadd, 1) := by decide +kernel
theorem tL_law_530 {d : Nat} {l0 l1 l2 l3 : Option Value} {v2 v3 v4 : Value} {x y : Int32} {m : jmM} {Q : Option Value → jmM → Prop} : AW d 289 530 [l0, l1, l2, l3] [.int y, .int x, v2, v3, v4] m Q ↔ AW d 289 531 [l0, l1, l2, l3] [.int (x + y), v2, v3, v4] m Q := A_iadd hB_L_law dL_law_530
theorem dL_law_531 : decode cL_law 531 = .ok (.iaload, 1) := by decide +kernel
theorem tL_law_531 {d : Nat} {l0 l1 l2 l3 : Option Value} {v2 v3 : Value} {i : Int32} {a : Nat} {m : jmM} {Q : Option Value → jmM → Prop} : AW d 289 531 [l0, l1, l2, l3] [.int i, .ref a, v2, v3] m Q ↔ (((mS m a).1 = 20 ∨ a = jScr) ∧ jIx i (mS m a).2) ∧ AW d 289 532 [l0, l1, l2, l3] [.int (mI m a (jx i)), v2, v3] m Q := A_iaload hB_L_law dL_law_531
theorem dL_law_532 : decode cL_law 532 = .ok (.invokevirtual 58, 3) := by decide +kernel
theorem tL_law_532 {d : Nat} {l0 l1 l2 l3 : Option Value} {v2 : Value} {y0 : Value} {a : Nat} {m : jmM} {Q : Option Value → jmM → Prop} : AW d 289 532 [l0, l1, l2, l3] [y0, .ref a, v2] m Q ↔ (mS m a).1 = 12 ∧ CC d 242 [.ref a, y0] m (jK d 289 535 [l0, l1, l2, l3] [v2] Q) := A_callV hB_L_law dL_law_532 hO_L_law fS_13_58 ⟨Nat.le_of_ble_eq_true rfl, Nat.le_of_ble_eq_true rfl⟩ rfl rfl rfl
theorem dL_law_535 : decode cL_law 535 = .ok (.if_icmp .eq 887, 3) := by decide +kernel
theorem tL_law_535 {d : Nat} {l0 l1 l2 l3 : Option Value} {x y : Int32} {m : jmM} {Q : Option Value → jmM → Prop} : AW d 289 535 [l0, l1, l2, l3] [.int y, .int x] m Q ↔ if x = y then AW d 289 1422 [l0, l1, l2, l3] [] m Q else AW d 289 538 [l0, l1, l2, l3] [] m Q := A_icmp_eq hB_L_law dL_law_535 (by decide)
theorem dL_law_538 : decode cL_law 538 = .ok (.iconst 0, 1) := by decide +kernel
theorem tL_law_538 {d : Nat} {l0 l1 l2 l3 : Option Value} {m : jmM} {Q : Option Value → jmM → Prop} : AW d 289 538 [l0, l1, l2, l3] [] m Q ↔ AW d 289 539 [l0, l1, l2, l3] [.int 0] m Q := A_iconst hB_L_law dL_law_538 (by decide)
theorem dL_law_539 : decode cL_law 539 = .ok (.ireturn, 1) := by decide +kernel
theorem tL_law_539 {d : Nat} {l0 l1 l2 l3 : Option Value} {x : Int32} {m : jmM} {Q : Option Value → jmM → Prop} : AW d 289 539 [l0, l1, l2, l3] [.int x] m Q ↔ jBool x ∧ Q (some (.int x)) m := A_zreturn hB_L_law dL_law_539 hR_L_law
theorem dL_law_540 : decode cL_law 540 = .ok (.aload_n 1, 1) := by decide +kernel
theorem tL_law_540 {d : Nat} {l0 l2 l3 : Option Value} {x : Nat} {m : jmM} {Q : Option Value → jmM → Prop} : AW d 289 540 [l0, some (.ref x), l2, l3] [] m Q ↔ AW d 289 541 [l0, some (.ref x), l2, l3] [.ref x] m Q := A_aload_n hB_L_law dL_law_540 rfl
theorem dL_law_541 : decode cL_law 541 = .ok (.aload_n 0, 1) := by decide +kernel
theorem tL_law_541 {d : Nat} {l1 l2 l3 : Option Value} {v0 : Value} {x : Nat} {m : jmM} {Q : Option Value → jmM → Prop} : AW d 289 541 [some (.ref x), l1, l2, l3] [v0] m Q ↔ AW d 289 542 [some (.ref x), l1, l2, l3] [.ref x, v0] m Q := A_aload_n hB_L_law dL_law_541 rfl
theorem dL_law_542 : decode cL_law 542 = .ok (.iload_n 3, 1) := by decide +kernel
theorem tL_law_542 {d : Nat} {l0 l1 l2 : Option Value} {v0 v1 : Value} {x : Int32} {m : jmM} {Q : Option Value → jmM → Prop} : AW d 289 542 [l0, l1, l2, some (.int x)] [v0, v1] m Q ↔ AW d 289 543 [l0, l1, l2, some (.int x)] [.int x, v0, v1] m Q := A_iload_n hB_L_law dL_law_542 rfl
theorem dL_law_543 : decode cL_law 543 = .ok (.iconst 1, 1) := by decide +kernel
theorem tL_law_543 {d : Nat} {l0 l1 l2 l3 : Option Value} {v0 v1 v2 : Value} {m : jmM} {Q : Option Value → jmM → Prop} : AW d 289 543 [l0, l1, l2, l3] [v0, v1, v2] m Q ↔ AW d 289 544 [l0, l1, l2, l3] [.int 1, v0, v1, v2] m Q := A_iconst hB_L_law dL_law_543 (by decide)
theorem dL_law_544 : decode cL_law 544 = .ok (.iadd, 1) := by decide +kernel
theorem tL_law_544 {d : Nat} {l0 l1 l2 l3 : Option Value} {v2 v3 : Value} {x y : Int32} {m : jmM} {Q : Option Value → jmM → Prop} : AW d 289 544 [l0, l1, l2, l3] [.int y, .int x, v2, v3] m Q ↔ AW d 289 545 [l0, l1, l2, l3] [.int (x + y), v2, v3] m Q := A_iadd hB_L_law dL_law_544
theorem dL_law_545 : decode cL_law 545 = .ok (.iaload, 1) := by decide +kernel
theorem tL_law_545 {d : Nat} {l0 l1 l2 l3 : Option Value} {v2 : Value} {i : Int32} {a : Nat} {m : jmM} {Q : Option Value → jmM → Prop} : AW d 289 545 [l0, l1, l2, l3] [.int i, .ref a, v2] m Q ↔ (((mS m a).1 = 20 ∨ a = jScr) ∧ jIx i (mS m a).2) ∧ AW d 289 546 [l0, l1, l2, l3] [.int (mI m a (jx i)), v2] m Q := A_iaload hB_L_law dL_law_545
theorem dL_law_546 : decode cL_law 546 = .ok (.aload_n 0, 1) := by decide +kernel
theorem tL_law_546 {d : Nat} {l1 l2 l3 : Option Value} {v0 v1 : Value} {x : Nat} {m : jmM} {Q : Option Value → jmM → Prop} : AW d 289 546 [some (.ref x), l1, l2, l3] [v0, v1] m Q ↔ AW d 289 547 [some (.ref x), l1, l2, l3] [.ref x, v0, v1] m Q := A_aload_n hB_L_law dL_law_546 rfl
theorem dL_law_547 : decode cL_law 547 = .ok (.iload_n 3, 1) := by decide +kernel
theorem tL_law_547 {d : Nat} {l0 l1 l2 : Option Value} {v0 v1 v2 : Value} {x : Int32} {m : jmM} {Q : Option Value → jmM → Prop} : AW d 289 547 [l0, l1, l2, some (.int x)] [v0, v1, v2] m Q ↔ AW d 289 548 [l0, l1, l2, some (.int x)] [.int x, v0, v1, v2] m Q := A_iload_n hB_L_law dL_law_547 rfl
theorem dL_law_548 : decode cL_law 548 = .ok (.iconst 2, 1) := by decide +kernel
theorem tL_law_548 {d : Nat} {l0 l1 l2 l3 : Option Value} {v0 v1 v2 v3 : Value} {m : jmM} {Q : Option Value → jmM → Prop} : AW d 289 548 [l0, l1, l2, l3] [v0, v1, v2, v3] m Q ↔ AW d 289 549 [l0, l1, l2, l3] [.int 2, v0, v1, v2, v3] m Q := A_iconst hB_L_law dL_law_548 (by decide)
theorem dL_law_549 : decode cL_law 549 = .ok (.iadd, 1) := by decide +kernel
theorem tL_law_549 {d : Nat} {l0 l1 l2 l3 : Option Value} {v2 v3 v4 : Value} {x y : Int32} {m : jmM} {Q : Option Value → jmM → Prop} : AW d 289 549 [l0, l1, l2, l3] [.int y, .int x, v2, v3, v4] m Q ↔ AW d 289 550 [l0, l1, l2, l3] [.int (x + y), v2, v3, v4] m Q := A_iadd hB_L_law dL_law_549
theorem dL_law_550 : decode cL_law 550 = .ok (.iaload, 1) := by decide +kernel
theorem tL_law_550 {d : Nat} {l0 l1 l2 l3 : Option Value} {v2 v3 : Value} {i : Int32} {a : Nat} {m : jmM} {Q : Option Value → jmM → Prop} : AW d 289 550 [l0, l1, l2, l3] [.int i, .ref a, v2, v3] m Q ↔ (((mS m a).1 = 20 ∨ a = jScr) ∧ jIx i (mS m a).2) ∧ AW d 289 551 [l0, l1, l2, l3] [.int (mI m a (jx i)), v2, v3] m Q := A_iaload hB_L_law dL_law_550
theorem dL_law_551 : decode cL_law 551 = .ok (.invokevirtual 59, 3) := by decide +kernel
theorem tL_law_551 {d : Nat} {l0 l1 l2 l3 : Option Value} {y0 y1 : Value} {a : Nat} {m : jmM} {Q : Option Value → jmM → Prop} : AW d 289 551 [l0, l1, l2, l3] [y0, y1, .ref a] m Q ↔ (mS m a).1 = 11 ∧ CC d 151 [.ref a, y1, y0] m (jK d 289 554 [l0, l1, l2, l3] [] Q) := A_callV hB_L_law dL_law_551 hO_L_law fS_13_59 ⟨Nat.le_of_ble_eq_true rfl, Nat.le_of_ble_eq_true rfl⟩ rfl rfl rfl
theorem dL_law_554 : decode cL_law 554 = .ok (.aload_n 2, 1) := by decide +kernel
theorem tL_law_554 {d : Nat} {l0 l1 l3 : Option Value} {v0 : Value} {x : Nat} {m : jmM} {Q : Option Value → jmM → Prop} : AW d 289 554 [l0, l1, some (.ref x), l3] [v0] m Q ↔ AW d 289 555 [l0, l1, some (.ref x), l3] [.ref x, v0] m Q := A_aload_n hB_L_law dL_law_554 rfl
theorem dL_law_555 : decode cL_law 555 = .ok (.aload_n 0, 1) := by decide +kernel
theorem tL_law_555 {d : Nat} {l1 l2 l3 : Option Value} {v0 v1 : Value} {x : Nat} {m : jmM} {Q : Option Value → jmM → Prop} : AW d 289 555 [some (.ref x), l1, l2, l3] [v0, v1] m Q ↔ AW d 289 556 [some (.ref x), l1, l2, l3] [.ref x, v0, v1] m Q := A_aload_n hB_L_law dL_law_555 rfl
theorem dL_law_556 : decode cL_law 556 = .ok (.iload_n 3, 1) := by decide +kernel
theorem tL_law_556 {d : Nat} {l0 l1 l2 : Option Value} {v0 v1 v2 : Value} {x : Int32} {m : jmM} {Q : Option Value → jmM → Prop} : AW d 289 556 [l0, l1, l2, some (.int x)] [v0, v1, v2] m Q ↔ AW d 289 557 [l0, l1, l2, some (.int x)] [.int x, v0, v1, v2] m Q := A_iload_n hB_L_law dL_law_556 rfl
theorem dL_law_557 : decode cL_law 557 = .ok (.iconst 1, 1) := by decide +kernel
theorem tL_law_557 {d : Nat} {l0 l1 l2 l3 : Option Value} {v0 v1 v2 v3 : Value} {m : jmM} {Q : Option Value → jmM → Prop} : AW d 289 557 [l0, l1, l2, l3] [v0, v1, v2, v3] m Q ↔ AW d 289 558 [l0, l1, l2, l3] [.int 1, v0, v1, v2, v3] m Q := A_iconst hB_L_law dL_law_557 (by decide)
theorem dL_law_558 : decode cL_law 558 = .ok (.iadd, 1) := by decide +kernel
theorem tL_law_558 {d : Nat} {l0 l1 l2 l3 : Option Value} {v2 v3 v4 : Value} {x y : Int32} {m : jmM} {Q : Option Value → jmM → Prop} : AW d 289 558 [l0, l1, l2, l3] [.int y, .int x, v2, v3, v4] m Q ↔ AW d 289 559 [l0, l1, l2, l3] [.int (x + y), v2, v3, v4] m Q := A_iadd hB_L_law dL_law_558
theorem dL_law_559 : decode cL_law 559 = .ok (.iaload, 1) := by decide +kernel
theorem tL_law_559 {d : Nat} {l0 l1 l2 l3 : Option Value} {v2 v3 : Value} {i : Int32} {a : Nat} {m : jmM} {Q : Option Value → jmM → Prop} : AW d 289 559 [l0, l1, l2, l3] [.int i, .ref a, v2, v3] m Q ↔ (((mS m a).1 = 20 ∨ a = jScr) ∧ jIx i (mS m a).2) ∧ AW d 289 560 [l0, l1, l2, l3] [.int (mI m a (jx i)), v2, v3] m Q := A_iaload hB_L_law dL_law_559
theorem dL_law_560 : decode cL_law 560 = .ok (.aload_n 0, 1) := by decide +kernel
theorem tL_law_560 {d : Nat} {l1 l2 l3 : Option Value} {v0 v1 v2 : Value} {x : Nat} {m : jmM} {Q : Option Value → jmM → Prop} : AW d 289 560 [some (.ref x), l1, l2, l3] [v0, v1, v2] m Q ↔ AW d 289 561 [some (.ref x), l1, l2, l3] [.ref x, v0, v1, v2] m Q := A_aload_n hB_L_law dL_law_560 rfl
theorem dL_law_561 : decode cL_law 561 = .ok (.iload_n 3, 1) := by decide +kernel
theorem tL_law_561 {d : Nat} {l0 l1 l2 : Option Value} {v0 v1 v2 v3 : Value} {x : Int32} {m : jmM} {Q : Option Value → jmM → Prop} : AW d 289 561 [l0, l1, l2, some (.int x)] [v0, v1, v2, v3] m Q ↔ AW d 289 562 [l0, l1, l2, some (.int x)] [.int x, v0, v1, v2, v3] m Q := A_iload_n hB_L_law dL_law_561 rfl
theorem dL_law_562 : decode cL_law 562 = .ok (.iconst 2, 1) := by decide +kernel
theorem tL_law_562 {d : Nat} {l0 l1 l2 l3 : Option Value} {v0 v1 v2 v3 v4 : Value} {m : jmM} {Q : Option Value → jmM → Prop} : AW d 289 562 [l0, l1, l2, l3] [v0, v1, v2, v3, v4] m Q ↔ AW d 289 563 [l0, l1, l2, l3] [.int 2, v0, v1, v2, v3, v4] m Q := A_iconst hB_L_law dL_law_562 (by decide)
theorem dL_law_563 : decode cL_law 563 = .ok (.iadd, 1) := by decide +kernel
theorem tL_law_563 {d : Nat} {l0 l1 l2 l3 : Option Value} {v2 v3 v4 v5 : Value} {x y : Int32} {m : jmM} {Q : Option Value → jmM → Prop} : AW d 289 563 [l0, l1, l2, l3] [.int y, .int x, v2, v3, v4, v5] m Q ↔ AW d 289 564 [l0, l1, l2, l3] [.int (x + y), v2, v3, v4, v5] m Q := A_iadd hB_L_law dL_law_563
theorem dL_law_564 : decode cL_law 564 = .ok (.iaload, 1) := by decide +kernel
theorem tL_law_564 {d : Nat} {l0 l1 l2 l3 : Option Value} {v2 v3 v4 : Value} {i : Int32} {a : Nat} {m : jmM} {Q : Option Value → jmM → Prop} : AW d 289 564 [l0, l1, l2, l3] [.int i, .ref a, v2, v3, v4] m Q ↔ (((mS m a).1 = 20 ∨ a = jScr) ∧ jIx i (mS m a).2) ∧ AW d 289 565 [l0, l1, l2, l3] [.int (mI m a (jx i)), v2, v3, v4] m Q := A_iaload hB_L_law dL_law_564
theorem dL_law_565 : decode cL_law 565 = .ok (.invokevirtual 63, 3) := by decide +kernel
theorem tL_law_565 {d : Nat} {l0 l1 l2 l3 : Option Value} {v3 : Value} {y0 y1 : Value} {a : Nat} {m : jmM} {Q : Option Value → jmM → Prop} : AW d 289 565 [l0, l1, l2, l3] [y0, y1, .ref a, v3] m Q ↔ (mS m a).1 = 12 ∧ CC d 255 [.ref a, y1, y0] m (jK d 289 568 [l0, l1, l2, l3] [v3] Q) := A_callV hB_L_law dL_law_565 hO_L_law fS_13_63 ⟨Nat.le_of_ble_eq_true rfl, Nat.le_of_ble_eq_true rfl⟩ rfl rfl rfl
theorem dL_law_568 : decode cL_law 568 = .ok (.if_icmp .eq 854, 3) := by decide +kernel
theorem tL_law_568 {d : Nat} {l0 l1 l2 l3 : Option Value} {x y : Int32} {m : jmM} {Q : Option Value → jmM → Prop} : AW d 289 568 [l0, l1, l2, l3] [.int y, .int x] m Q ↔ if x = y then AW d 289 1422 [l0, l1, l2, l3] [] m Q else AW d 289 571 [l0, l1, l2, l3] [] m Q := A_icmp_eq hB_L_law dL_law_568 (by decide)
theorem dL_law_571 : decode cL_law 571 = .ok (.iconst 0, 1) := by decide +kernel
theorem tL_law_571 {d : Nat} {l0 l1 l2 l3 : Option Value} {m : jmM} {Q : Option Value → jmM → Prop} : AW d 289 571 [l0, l1, l2, l3] [] m Q ↔ AW d 289 572 [l0, l1, l2, l3] [.int 0] m Q := A_iconst hB_L_law dL_law_571 (by decide)
theorem dL_law_572 : decode cL_law 572 = .ok (.ireturn, 1) := by decide +kernel
theorem tL_law_572 {d : Nat} {l0 l1 l2 l3 : Option Value} {x : Int32} {m : jmM} {Q : Option Value → jmM → Prop} : AW d 289 572 [l0, l1, l2, l3] [.int x] m Q ↔ jBool x ∧ Q (some (.int x)) m := A_zreturn hB_L_law dL_law_572 hR_L_law
theorem dL_law_573 : decode cL_law 573 = .ok (.aload_n 1, 1) := by decide +kernel
theorem tL_law_573 {d : Nat} {l0 l2 l3 : Option Value} {x : Nat} {m : jmM} {Q : Option Value → jmM → Prop} : AW d 289 573 [l0, some (.ref x), l2, l3] [] m Q ↔ AW d 289 574 [l0, some (.ref x), l2, l3] [.ref x] m Q := A_aload_n hB_L_law dL_law_573 rfl
theorem dL_law_574 : decode cL_law 574 = .ok (.aload_n 0, 1) := by decide +kernel
theorem tL_law_574 {d : Nat} {l1 l2 l3 : Option Value} {v0 : Value} {x : Nat} {m : jmM} {Q : Option Value → jmM → Prop} : AW d 289 574 [some (.ref x), l1, l2, l3] [v0] m Q ↔ AW d 289 575 [some (.ref x), l1, l2, l3] [.ref x, v0] m Q := A_aload_n hB_L_law dL_law_574 rfl
theorem dL_law_575 : decode cL_law 575 = .ok (.iload_n 3, 1) := by decide +kernel
theorem tL_law_575 {d : Nat} {l0 l1 l2 : Option Value} {v0 v1 : Value} {x : Int32} {m : jmM} {Q : Option Value → jmM → Prop} : AW d 289 575 [l0, l1, l2, some (.int x)] [v0, v1] m Q ↔ AW d 289 576 [l0, l1, l2, some (.int x)] [.int x, v0, v1] m Q := A_iload_n hB_L_law dL_law_575 rfl
theorem dL_law_576 : decode cL_law 576 = .ok (.iconst 1, 1) := by decide +kernel
theorem tL_law_576 {d : Nat} {l0 l1 l2 l3 : Option Value} {v0 v1 v2 : Value} {m : jmM} {Q : Option Value → jmM → Prop} : AW d 289 576 [l0, l1, l2, l3] [v0, v1, v2] m Q ↔ AW d 289 577 [l0, l1, l2, l3] [.int 1, v0, v1, v2] m Q := A_iconst hB_L_law dL_law_576 (by decide)
theorem dL_law_577 : decode cL_law 577 = .ok (.iadd, 1) := by decide +kernel
theorem tL_law_577 {d : Nat} {l0 l1 l2 l3 : Option Value} {v2 v3 : Value} {x y : Int32} {m : jmM} {Q : Option Value → jmM → Prop} : AW d 289 577 [l0, l1, l2, l3] [.int y, .int x, v2, v3] m Q ↔ AW d 289 578 [l0, l1, l2, l3] [.int (x + y), v2, v3] m Q := A_iadd hB_L_law dL_law_577
theorem dL_law_578 : decode cL_law 578 = .ok (.iaload, 1) := by decide +kernel
theorem tL_law_578 {d : Nat} {l0 l1 l2 l3 : Option Value} {v2 : Value} {i : Int32} {a : Nat} {m : jmM} {Q : Option Value → jmM → Prop} : AW d 289 578 [l0, l1, l2, l3] [.int i, .ref a, v2] m Q ↔ (((mS m a).1 = 20 ∨ a = jScr) ∧ jIx i (mS m a).2) ∧ AW d 289 579 [l0, l1, l2, l3] [.int (mI m a (jx i)), v2] m Q := A_iaload hB_L_law dL_law_578
theorem dL_law_579 : decode cL_law 579 = .ok (.aload_n 0, 1) := by decide +kernel
theorem tL_law_579 {d : Nat} {l1 l2 l3 : Option Value} {v0 v1 : Value} {x : Nat} {m : jmM} {Q : Option Value → jmM → Prop} : AW d 289 579 [some (.ref x), l1, l2, l3] [v0, v1] m Q ↔ AW d 289 580 [some (.ref x), l1, l2, l3] [.ref x, v0, v1] m Q := A_aload_n hB_L_law dL_law_579 rfl
theorem dL_law_580 : decode cL_law 580 = .ok (.iload_n 3, 1) := by decide +kernel
theorem tL_law_580 {d : Nat} {l0 l1 l2 : Option Value} {v0 v1 v2 : Value} {x : Int32} {m : jmM} {Q : Option Value → jmM → Prop} : AW d 289 580 [l0, l1, l2, some (.int x)] [v0, v1, v2] m Q ↔ AW d 289 581 [l0, l1, l2, some (.int x)] [.int x, v0, v1, v2] m Q := A_iload_n hB_L_law dL_law_580 rfl
theorem dL_law_581 : decode cL_law 581 = .ok (.iconst 2, 1) := by decide +kernel
theorem tL_law_581 {d : Nat} {l0 l1 l2 l3 : Option Value} {v0 v1 v2 v3 : Value} {m : jmM} {Q : Option Value → jmM → Prop} : AW d 289 581 [l0, l1, l2, l3] [v0, v1, v2, v3] m Q ↔ AW d 289 582 [l0, l1, l2, l3] [.int 2, v0, v1, v2, v3] m Q := A_iconst hB_L_law dL_law_581 (by decide)
theorem dL_law_582 : decode cL_law 582 = .ok (.iadd, 1) := by decide +kernel
theorem tL_law_582 {d : Nat} {l0 l1 l2 l3 : Option Value} {v2 v3 v4 : Value} {x y : Int32} {m : jmM} {Q : Option Value → jmM → Prop} : AW d 289 582 [l0, l1, l2, l3] [.int y, .int x, v2, v3, v4] m Q ↔ AW d 289 583 [l0, l1, l2, l3] [.int (x + y), v2, v3, v4] m Q := A_iadd hB_L_law dL_law_582
theorem dL_law_583 : decode cL_law 583 = .ok (.iaload, 1) := by decide +kernel
theorem tL_law_583 {d : Nat} {l0 l1 l2 l3 : Option Value} {v2 v3 : Value} {i : Int32} {a : Nat} {m : jmM} {Q : Option Value → jmM → Prop} : AW d 289 583 [l0, l1, l2, l3] [.int i, .ref a, v2, v3] m Q ↔ (((mS m a).1 = 20 ∨ a = jScr) ∧ jIx i (mS m a).2) ∧ AW d 289 584 [l0, l1, l2, l3] [.int (mI m a (jx i)), v2, v3] m Q := A_iaload hB_L_law dL_law_583
theorem dL_law_584 : decode cL_law 584 = .ok (.invokevirtual 64, 3) := by decide +kernel
theorem tL_law_584 {d : Nat} {l0 l1 l2 l3 : Option Value} {y0 y1 : Value} {a : Nat} {m : jmM} {Q : Option Value → jmM → Prop} : AW d 289 584 [l0, l1, l2, l3] [y0, y1, .ref a] m Q ↔ (mS m a).1 = 11 ∧ CC d 152 [.ref a, y1, y0] m (jK d 289 587 [l0, l1, l2, l3] [] Q) := A_callV hB_L_law dL_law_584 hO_L_law fS_13_64 ⟨Nat.le_of_ble_eq_true rfl, Nat.le_of_ble_eq_true rfl⟩ rfl rfl rfl
theorem dL_law_587 : decode cL_law 587 = .ok (.aload_n 2, 1) := by decide +kernel
theorem tL_law_587 {d : Nat} {l0 l1 l3 : Option Value} {v0 : Value} {x : Nat} {m : jmM} {Q : Option Value → jmM → Prop} : AW d 289 587 [l0, l1, some (.ref x), l3] [v0] m Q ↔ AW d 289 588 [l0, l1, some (.ref x), l3] [.ref x, v0] m Q := A_aload_n hB_L_law dL_law_587 rfl
theorem dL_law_588 : decode cL_law 588 = .ok (.aload_n 0, 1) := by decide +kernel
theorem tL_law_588 {d : Nat} {l1 l2 l3 : Option Value} {v0 v1 : Value} {x : Nat} {m : jmM} {Q : Option Value → jmM → Prop} : AW d 289 588 [some (.ref x), l1, l2, l3] [v0, v1] m Q ↔ AW d 289 589 [some (.ref x), l1, l2, l3] [.ref x, v0, v1] m Q := A_aload_n hB_L_law dL_law_588 rfl
theorem dL_law_589 : decode cL_law 589 = .ok (.iload_n 3, 1) := by decide +kernel
theorem tL_law_589 {d : Nat} {l0 l1 l2 : Option Value} {v0 v1 v2 : Value} {x : Int32} {m : jmM} {Q : Option Value → jmM → Prop} : AW d 289 589 [l0, l1, l2, some (.int x)] [v0, v1, v2] m Q ↔ AW d 289 590 [l0, l1, l2, some (.int x)] [.int x, v0, v1, v2] m Q := A_iload_n hB_L_law dL_law_589 rfl
theorem dL_law_590 : decode cL_law 590 = .ok (.iconst 1, 1) := by decide +kernel
theorem tL_law_590 {d : Nat} {l0 l1 l2 l3 : Option Value} {v0 v1 v2 v3 : Value} {m : jmM} {Q : Option Value → jmM → Prop} : AW d 289 590 [l0, l1, l2, l3] [v0, v1, v2, v3] m Q ↔ AW d 289 591 [l0, l1, l2, l3] [.int 1, v0, v1, v2, v3] m Q := A_iconst hB_L_law dL_law_590 (by decide)
theorem dL_law_591 : decode cL_law 591 = .ok (.iadd, 1) := by decide +kernel
theorem tL_law_591 {d : Nat} {l0 l1 l2 l3 : Option Value} {v2 v3 v4 : Value} {x y : Int32} {m : jmM} {Q : Option Value → jmM → Prop} : AW d 289 591 [l0, l1, l2, l3] [.int y, .int x, v2, v3, v4] m Q ↔ AW d 289 592 [l0, l1, l2, l3] [.int (x + y), v2, v3, v4] m Q := A_iadd hB_L_law dL_law_591
theorem dL_law_592 : decode cL_law 592 = .ok (.iaload, 1) := by decide +kernel
theorem tL_law_592 {d : Nat} {l0 l1 l2 l3 : Option Value} {v2 v3 : Value} {i : Int32} {a : Nat} {m : jmM} {Q : Option Value → jmM → Prop} : AW d 289 592 [l0, l1, l2, l3] [.int i, .ref a, v2, v3] m Q ↔ (((mS m a).1 = 20 ∨ a = jScr) ∧ jIx i (mS m a).2) ∧ AW d 289 593 [l0, l1, l2, l3] [.int (mI m a (jx i)), v2, v3] m Q := A_iaload hB_L_law dL_law_592
theorem dL_law_593 : decode cL_law 593 = .ok (.aload_n 0, 1) := by decide +kernel
theorem tL_law_593 {d : Nat} {l1 l2 l3 : Option Value} {v0 v1 v2 : Value} {x : Nat} {m : jmM} {Q : Option Value → jmM → Prop} : AW d 289 593 [some (.ref x), l1, l2, l3] [v0, v1, v2] m Q ↔ AW d 289 594 [some (.ref x), l1, l2, l3] [.ref x, v0, v1, v2] m Q := A_aload_n hB_L_law dL_law_593 rfl
theorem dL_law_594 : decode cL_law 594 = .ok (.iload_n 3, 1) := by decide +kernel
theorem tL_law_594 {d : Nat} {l0 l1 l2 : Option Value} {v0 v1 v2 v3 : Value} {x : Int32} {m : jmM} {Q : Option Value → jmM → Prop} : AW d 289 594 [l0, l1, l2, some (.int x)] [v0, v1, v2, v3] m Q ↔ AW d 289 595 [l0, l1, l2, some (.int x)] [.int x, v0, v1, v2, v3] m Q := A_iload_n hB_L_law dL_law_594 rfl
theorem dL_law_595 : decode cL_law 595 = .ok (.iconst 2, 1) := by decide +kernel
theorem tL_law_595 {d : Nat} {l0 l1 l2 l3 : Option Value} {v0 v1 v2 v3 v4 : Value} {m : jmM} {Q : Option Value → jmM → Prop} : AW d 289 595 [l0, l1, l2, l3] [v0, v1, v2, v3, v4] m Q ↔ AW d 289 596 [l0, l1, l2, l3] [.int 2, v0, v1, v2, v3, v4] m Q := A_iconst hB_L_law dL_law_595 (by decide)
theorem dL_law_596 : decode cL_law 596 = .ok (.iadd, 1) := by decide +kernel
theorem tL_law_596 {d : Nat} {l0 l1 l2 l3 : Option Value} {v2 v3 v4 v5 : Value} {x y : Int32} {m : jmM} {Q : Option Value → jmM → Prop} : AW d 289 596 [l0, l1, l2, l3] [.int y, .int x, v2, v3, v4, v5] m Q ↔ AW d 289 597 [l0, l1, l2, l3] [.int (x + y), v2, v3, v4, v5] m Q := A_iadd hB_L_law dL_law_596
theorem dL_law_597 : decode cL_law 597 = .ok (.iaload, 1) := by decide +kernel
theorem tL_law_597 {d : Nat} {l0 l1 l2 l3 : Option Value} {v2 v3 v4 : Value} {i : Int32} {a : Nat} {m : jmM} {Q : Option Value → jmM → Prop} : AW d 289 597 [l0, l1, l2, l3] [.int i, .ref a, v2, v3, v4] m Q ↔ (((mS m a).1 = 20 ∨ a = jScr) ∧ jIx i (mS m a).2) ∧ AW d 289 598 [l0, l1, l2, l3] [.int (mI m a (jx i)), v2, v3, v4] m Q := A_iaload hB_L_law dL_law_597
theorem dL_law_598 : decode cL_law 598 = .ok (.invokevirtual 68, 3) := by decide +kernel
theorem tL_law_598 {d : Nat} {l0 l1 l2 l3 : Option Value} {v3 : Value} {y0 y1 : Value} {a : Nat} {m : jmM} {Q : Option Value → jmM → Prop} : AW d 289 598 [l0, l1, l2, l3] [y0, y1, .ref a, v3] m Q ↔ (mS m a).1 = 12 ∧ CC d 256 [.ref a, y1, y0] m (jK d 289 601 [l0, l1, l2, l3] [v3] Q) := A_callV hB_L_law dL_law_598 hO_L_law fS_13_68 ⟨Nat.le_of_ble_eq_true rfl, Nat.le_of_ble_eq_true rfl⟩ rfl rfl rfl
theorem dL_law_601 : decode cL_law 601 = .ok (.lcmp, 1) := by decide +kernel
theorem tL_law_601 {d : Nat} {l0 l1 l2 l3 : Option Value} {x y : Int64} {m : jmM} {Q : Option Value → jmM → Prop} : AW d 289 601 [l0, l1, l2, l3] [.long y, .long x] m Q ↔ AW d 289 602 [l0, l1, l2, l3] [.int (lg_cmp x y)] m Q := A_lcmp hB_L_law dL_law_601
theorem dL_law_602 : decode cL_law 602 = .ok (.ifCond .eq 820, 3) := by decide +kernel
theorem tL_law_602 {d : Nat} {l0 l1 l2 l3 : Option Value} {x : Int32} {m : jmM} {Q : Option Value → jmM → Prop} : AW d 289 602 [l0, l1, l2, l3] [.int x] m Q ↔ if x = 0 then AW d 289 1422 [l0, l1, l2, l3] [] m Q else AW d 289 605 [l0, l1, l2, l3] [] m Q := A_if_eq hB_L_law dL_law_602 (by decide)
theorem dL_law_605 : decode cL_law 605 = .ok (.iconst 0, 1) := by decide +kernel
theorem tL_law_605 {d : Nat} {l0 l1 l2 l3 : Option Value} {m : jmM} {Q : Option Value → jmM → Prop} : AW d 289 605 [l0, l1, l2, l3] [] m Q ↔ AW d 289 606 [l0, l1, l2, l3] [.int 0] m Q := A_iconst hB_L_law dL_law_605 (by decide)
theorem dL_law_606 : decode cL_law 606 = .ok (.ireturn, 1) := by decide +kernel
theorem tL_law_606 {d : Nat} {l0 l1 l2 l3 : Option Value} {x : Int32} {m : jmM} {Q : Option Value → jmM → Prop} : AW d 289 606 [l0, l1, l2, l3] [.int x] m Q ↔ jBool x ∧ Q (some (.int x)) m := A_zreturn hB_L_law dL_law_606 hR_L_law
theorem dL_law_607 : decode cL_law 607 = .ok (.aload_n 1, 1) := by decide +kernel
theorem tL_law_607 {d : Nat} {l0 l2 l3 : Option Value} {x : Nat} {m : jmM} {Q : Option Value → jmM → Prop} : AW d 289 607 [l0, some (.ref x), l2, l3] [] m Q ↔ AW d 289 608 [l0, some (.ref x), l2, l3] [.ref x] m Q := A_aload_n hB_L_law dL_law_607 rfl
theorem dL_law_608 : decode cL_law 608 = .ok (.aload_n 0, 1) := by decide +kernel
theorem tL_law_608 {d : Nat} {l1 l2 l3 : Option Value} {v0 : Value} {x : Nat} {m : jmM} {Q : Option Value → jmM → Prop} : AW d 289 608 [some (.ref x), l1, l2, l3] [v0] m Q ↔ AW d 289 609 [some (.ref x), l1, l2, l3] [.ref x, v0] m Q := A_aload_n hB_L_law dL_law_608 rfl
theorem dL_law_609 : decode cL_law 609 = .ok (.iload_n 3, 1) := by decide +kernel
theorem tL_law_609 {d : Nat} {l0 l1 l2 : Option Value} {v0 v1 : Value} {x : Int32} {m : jmM} {Q : Option Value → jmM → Prop} : AW d 289 609 [l0, l1, l2, some (.int x)] [v0, v1] m Q ↔ AW d 289 610 [l0, l1, l2, some (.int x)] [.int x, v0, v1] m Q := A_iload_n hB_L_law dL_law_609 rfl
theorem dL_law_610 : decode cL_law 610 = .ok (.iconst 1, 1) := by decide +kernel
theorem tL_law_610 {d : Nat} {l0 l1 l2 l3 : Option Value} {v0 v1 v2 : Value} {m : jmM} {Q : Option Value → jmM → Prop} : AW d 289 610 [l0, l1, l2, l3] [v0, v1, v2] m Q ↔ AW d 289 611 [l0, l1, l2, l3] [.int 1, v0, v1, v2] m Q := A_iconst hB_L_law dL_law_610 (by decide)
theorem dL_law_611 : decode cL_law 611 = .ok (.iadd, 1) := by decide +kernel
theorem tL_law_611 {d : Nat} {l0 l1 l2 l3 : Option Value} {v2 v3 : Value} {x y : Int32} {m : jmM} {Q : Option Value → jmM → Prop} : AW d 289 611 [l0, l1, l2, l3] [.int y, .int x, v2, v3] m Q ↔ AW d 289 612 [l0, l1, l2, l3] [.int (x + y), v2, v3] m Q := A_iadd hB_L_law dL_law_611
theorem dL_law_612 : decode cL_law 612 = .ok (.iaload, 1) := by decide +kernel
theorem tL_law_612 {d : Nat} {l0 l1 l2 l3 : Option Value} {v2 : Value} {i : Int32} {a : Nat} {m : jmM} {Q : Option Value → jmM → Prop} : AW d 289 612 [l0, l1, l2, l3] [.int i, .ref a, v2] m Q ↔ (((mS m a).1 = 20 ∨ a = jScr) ∧ jIx i (mS m a).2) ∧ AW d 289 613 [l0, l1, l2, l3] [.int (mI m a (jx i)), v2] m Q := A_iaload hB_L_law dL_law_612
theorem dL_law_613 : decode cL_law 613 = .ok (.aload_n 0, 1) := by decide +kernel
theorem tL_law_613 {d : Nat} {l1 l2 l3 : Option Value} {v0 v1 : Value} {x : Nat} {m : jmM} {Q : Option Value → jmM → Prop} : AW d 289 613 [some (.ref x), l1, l2, l3] [v0, v1] m Q ↔ AW d 289 614 [some (.ref x), l1, l2, l3] [.ref x, v0, v1] m Q := A_aload_n hB_L_law dL_law_613 rfl
theorem dL_law_614 : decode cL_law 614 = .ok (.iload_n 3, 1) := by decide +kernel
theorem tL_law_614 {d : Nat} {l0 l1 l2 : Option Value} {v0 v1 v2 : Value} {x : Int32} {m : jmM} {Q : Option Value → jmM → Prop} : AW d 289 614 [l0, l1, l2, some (.int x)] [v0, v1, v2] m Q ↔ AW d 289 615 [l0, l1, l2, some (.int x)] [.int x, v0, v1, v2] m Q := A_iload_n hB_L_law dL_law_614 rfl
theorem dL_law_615 : decode cL_law 615 = .ok (.iconst 2, 1) := by decide +kernel
theorem tL_law_615 {d : Nat} {l0 l1 l2 l3 : Option Value} {v0 v1 v2 v3 : Value} {m : jmM} {Q : Option Value → jmM → Prop} : AW d 289 615 [l0, l1, l2, l3] [v0, v1, v2, v3] m Q ↔ AW d 289 616 [l0, l1, l2, l3] [.int 2, v0, v1, v2, v3] m Q := A_iconst hB_L_law dL_law_615 (by decide)
theorem dL_law_616 : decode cL_law 616 = .ok (.iadd, 1) := by decide +kernel
theorem tL_law_616 {d : Nat} {l0 l1 l2 l3 : Option Value} {v2 v3 v4 : Value} {x y : Int32} {m : jmM} {Q : Option Value → jmM → Prop} : AW d 289 616 [l0, l1, l2, l3] [.int y, .int x, v2, v3, v4] m Q ↔ AW d 289 617 [l0, l1, l2, l3] [.int (x + y), v2, v3, v4] m Q := A_iadd hB_L_law dL_law_616
theorem dL_law_617 : decode cL_law 617 = .ok (.iaload, 1) := by decide +kernel
theorem tL_law_617 {d : Nat} {l0 l1 l2 l3 : Option Value} {v2 v3 : Value} {i : Int32} {a : Nat} {m : jmM} {Q : Option Value → jmM → Prop} : AW d 289 617 [l0, l1, l2, l3] [.int i, .ref a, v2, v3] m Q ↔ (((mS m a).1 = 20 ∨ a = jScr) ∧ jIx i (mS m a).2) ∧ AW d 289 618 [l0, l1, l2, l3] [.int (mI m a (jx i)), v2, v3] m Q := A_iaload hB_L_law dL_law_617
theorem dL_law_618 : decode cL_law 618 = .ok (.invokevirtual 69, 3) := by decide +kernel
theorem tL_law_618 {d : Nat} {l0 l1 l2 l3 : Option Value} {y0 y1 : Value} {a : Nat} {m : jmM} {Q : Option Value → jmM → Prop} : AW d 289 618 [l0, l1, l2, l3] [y0, y1, .ref a] m Q ↔ (mS m a).1 = 11 ∧ CC d 153 [.ref a, y1, y0] m (jK d 289 621 [l0, l1, l2, l3] [] Q) := A_callV hB_L_law dL_law_618 hO_L_law fS_13_69 ⟨Nat.le_of_ble_eq_true rfl, Nat.le_of_ble_eq_true rfl⟩ rfl rfl rfl
theorem dL_law_621 : decode cL_law 621 = .ok (.aload_n 2, 1) := by decide +kernel
theorem tL_law_621 {d : Nat} {l0 l1 l3 : Option Value} {v0 : Value} {x : Nat} {m : jmM} {Q : Option Value → jmM → Prop} : AW d 289 621 [l0, l1, some (.ref x), l3] [v0] m Q ↔ AW d 289 622 [l0, l1, some (.ref x), l3] [.ref x, v0] m Q := A_aload_n hB_L_law dL_law_621 rfl
theorem dL_law_622 : decode cL_law 622 = .ok (.aload_n 0, 1) := by decide +kernel
theorem tL_law_622 {d : Nat} {l1 l2 l3 : Option Value} {v0 v1 : Value} {x : Nat} {m : jmM} {Q : Option Value → jmM → Prop} : AW d 289 622 [some (.ref x), l1, l2, l3] [v0, v1] m Q ↔ AW d 289 623 [some (.ref x), l1, l2, l3] [.ref x, v0, v1] m Q := A_aload_n hB_L_law dL_law_622 rfl
theorem dL_law_623 : decode cL_law 623 = .ok (.iload_n 3, 1) := by decide +kernel
theorem tL_law_623 {d : Nat} {l0 l1 l2 : Option Value} {v0 v1 v2 : Value} {x : Int32} {m : jmM} {Q : Option Value → jmM → Prop} : AW d 289 623 [l0, l1, l2, some (.int x)] [v0, v1, v2] m Q ↔ AW d 289 624 [l0, l1, l2, some (.int x)] [.int x, v0, v1, v2] m Q := A_iload_n hB_L_law dL_law_623 rfl
theorem dL_law_624 : decode cL_law 624 = .ok (.iconst 1, 1) := by decide +kernel
theorem tL_law_624 {d : Nat} {l0 l1 l2 l3 : Option Value} {v0 v1 v2 v3 : Value} {m : jmM} {Q : Option Value → jmM → Prop} : AW d 289 624 [l0, l1, l2, l3] [v0, v1, v2, v3] m Q ↔ AW d 289 625 [l0, l1, l2, l3] [.int 1, v0, v1, v2, v3] m Q := A_iconst hB_L_law dL_law_624 (by decide)
theorem dL_law_625 : decode cL_law 625 = .ok (.iadd, 1) := by decide +kernel
theorem tL_law_625 {d : Nat} {l0 l1 l2 l3 : Option Value} {v2 v3 v4 : Value} {x y : Int32} {m : jmM} {Q : Option Value → jmM → Prop} : AW d 289 625 [l0, l1, l2, l3] [.int y, .int x, v2, v3, v4] m Q ↔ AW d 289 626 [l0, l1, l2, l3] [.int (x + y), v2, v3, v4] m Q := A_iadd hB_L_law dL_law_625
theorem dL_law_626 : decode cL_law 626 = .ok (.iaload, 1) := by decide +kernel
theorem tL_law_626 {d : Nat} {l0 l1 l2 l3 : Option Value} {v2 v3 : Value} {i : Int32} {a : Nat} {m : jmM} {Q : Option Value → jmM → Prop} : AW d 289 626 [l0, l1, l2, l3] [.int i, .ref a, v2, v3] m Q ↔ (((mS m a).1 = 20 ∨ a = jScr) ∧ jIx i (mS m a).2) ∧ AW d 289 627 [l0, l1, l2, l3] [.int (mI m a (jx i)), v2, v3] m Q := A_iaload hB_L_law dL_law_626
theorem dL_law_627 : decode cL_law 627 = .ok (.aload_n 0, 1) := by decide +kernel
theorem tL_law_627 {d : Nat} {l1 l2 l3 : Option Value} {v0 v1 v2 : Value} {x : Nat} {m : jmM} {Q : Option Value → jmM → Prop} : AW d 289 627 [some (.ref x), l1, l2, l3] [v0, v1, v2] m Q ↔ AW d 289 628 [some (.ref x), l1, l2, l3] [.ref x, v0, v1, v2] m Q := A_aload_n hB_L_law dL_law_627 rfl
theorem dL_law_628 : decode cL_law 628 = .ok (.iload_n 3, 1) := by decide +kernel
theorem tL_law_628 {d : Nat} {l0 l1 l2 : Option Value} {v0 v1 v2 v3 : Value} {x : Int32} {m : jmM} {Q : Option Value → jmM → Prop} : AW d 289 628 [l0, l1, l2, some (.int x)] [v0, v1, v2, v3] m Q ↔ AW d 289 629 [l0, l1, l2, some (.int x)] [.int x, v0, v1, v2, v3] m Q := A_iload_n hB_L_law dL_law_628 rfl
theorem dL_law_629 : decode cL_law 629 = .ok (.iconst 2, 1) := by decide +kernel
theorem tL_law_629 {d : Nat} {l0 l1 l2 l3 : Option Value} {v0 v1 v2 v3 v4 : Value} {m : jmM} {Q : Option Value → jmM → Prop} : AW d 289 629 [l0, l1, l2, l3] [v0, v1, v2, v3, v4] m Q ↔ AW d 289 630 [l0, l1, l2, l3] [.int 2, v0, v1, v2, v3, v4] m Q := A_iconst hB_L_law dL_law_629 (by decide)
theorem dL_law_630 : decode cL_law 630 = .ok (.iadd, 1) := by decide +kernel
theorem tL_law_630 {d : Nat} {l0 l1 l2 l3 : Option Value} {v2 v3 v4 v5 : Value} {x y : Int32} {m : jmM} {Q : Option Value → jmM → Prop} : AW d 289 630 [l0, l1, l2, l3] [.int y, .int x, v2, v3, v4, v5] m Q ↔ AW d 289 631 [l0, l1, l2, l3] [.int (x + y), v2, v3, v4, v5] m Q := A_iadd hB_L_law dL_law_630
theorem dL_law_631 : decode cL_law 631 = .ok (.iaload, 1) := by decide +kernel
theorem tL_law_631 {d : Nat} {l0 l1 l2 l3 : Option Value} {v2 v3 v4 : Value} {i : Int32} {a : Nat} {m : jmM} {Q : Option Value → jmM → Prop} : AW d 289 631 [l0, l1, l2, l3] [.int i, .ref a, v2, v3, v4] m Q ↔ (((mS m a).1 = 20 ∨ a = jScr) ∧ jIx i (mS m a).2) ∧ AW d 289 632 [l0, l1, l2, l3] [.int (mI m a (jx i)), v2, v3, v4] m Q := A_iaload hB_L_law dL_law_631
theorem dL_law_632 : decode cL_law 632 = .ok (.invokevirtual 72, 3) := by decide +kernel
theorem tL_law_632 {d : Nat} {l0 l1 l2 l3 : Option Value} {v3 : Value} {y0 y1 : Value} {a : Nat} {m : jmM} {Q : Option Value → jmM → Prop} : AW d 289 632 [l0, l1, l2, l3] [y0, y1, .ref a, v3] m Q ↔ (mS m a).1 = 12 ∧ CC d 258 [.ref a, y1, y0] m (jK d 289 635 [l0, l1, l2, l3] [v3] Q) := A_callV hB_L_law dL_law_632 hO_L_law fS_13_72 ⟨Nat.le_of_ble_eq_true rfl, Nat.le_of_ble_eq_true rfl⟩ rfl rfl rfl
theorem dL_law_635 : decode cL_law 635 = .ok (.lcmp, 1) := by decide +kernel
theorem tL_law_635 {d : Nat} {l0 l1 l2 l3 : Option Value} {x y : Int64} {m : jmM} {Q : Option Value → jmM → Prop} : AW d 289 635 [l0, l1, l2, l3] [.long y, .long x] m Q ↔ AW d 289 636 [l0, l1, l2, l3] [.int (lg_cmp x y)] m Q := A_lcmp hB_L_law dL_law_635
theorem dL_law_636 : decode cL_law 636 = .ok (.ifCond .eq 786, 3) := by decide +kernel
theorem tL_law_636 {d : Nat} {l0 l1 l2 l3 : Option Value} {x : Int32} {m : jmM} {Q : Option Value → jmM → Prop} : AW d 289 636 [l0, l1, l2, l3] [.int x] m Q ↔ if x = 0 then AW d 289 1422 [l0, l1, l2, l3] [] m Q else AW d 289 639 [l0, l1, l2, l3] [] m Q := A_if_eq hB_L_law dL_law_636 (by decide)
theorem dL_law_639 : decode cL_law 639 = .ok (.iconst 0, 1) := by decide +kernel
theorem tL_law_639 {d : Nat} {l0 l1 l2 l3 : Option Value} {m : jmM} {Q : Option Value → jmM → Prop} : AW d 289 639 [l0, l1, l2, l3] [] m Q ↔ AW d 289 640 [l0, l1, l2, l3] [.int 0] m Q := A_iconst hB_L_law dL_law_639 (by decide)
theorem dL_law_640 : decode cL_law 640 = .ok (.ireturn, 1) := by decide +kernel
theorem tL_law_640 {d : Nat} {l0 l1 l2 l3 : Option Value} {x : Int32} {m : jmM} {Q : Option Value → jmM → Prop} : AW d 289 640 [l0, l1, l2, l3] [.int x] m Q ↔ jBool x ∧ Q (some (.int x)) m := A_zreturn hB_L_law dL_law_640 hR_L_law
theorem dL_law_641 : decode cL_law 641 = .ok (.aload_n 1, 1) := by decide +kernel
theorem tL_law_641 {d : Nat} {l0 l2 l3 : Option Value} {x : Nat} {m : jmM} {Q : Option Value → jmM → Prop} : AW d 289 641 [l0, some (.ref x), l2, l3] [] m Q ↔ AW d 289 642 [l0, some (.ref x), l2, l3] [.ref x] m Q := A_aload_n hB_L_law dL_law_641 rfl
theorem dL_law_642 : decode cL_law 642 = .ok (.aload_n 0, 1) := by decide +kernel
theorem tL_law_642 {d : Nat} {l1 l2 l3 : Option Value} {v0 : Value} {x : Nat} {m : jmM} {Q : Option Value → jmM → Prop} : AW d 289 642 [some (.ref x), l1, l2, l3] [v0] m Q ↔ AW d 289 643 [some (.ref x), l1, l2, l3] [.ref x, v0] m Q := A_aload_n hB_L_law dL_law_642 rfl
theorem dL_law_643 : decode cL_law 643 = .ok (.iload_n 3, 1) := by decide +kernel
theorem tL_law_643 {d : Nat} {l0 l1 l2 : Option Value} {v0 v1 : Value} {x : Int32} {m : jmM} {Q : Option Value → jmM → Prop} : AW d 289 643 [l0, l1, l2, some (.int x)] [v0, v1] m Q ↔ AW d 289 644 [l0, l1, l2, some (.int x)] [.int x, v0, v1] m Q := A_iload_n hB_L_law dL_law_643 rfl
theorem dL_law_644 : decode cL_law 644 = .ok (.iconst 1, 1) := by decide +kernel
theorem tL_law_644 {d : Nat} {l0 l1 l2 l3 : Option Value} {v0 v1 v2 : Value} {m : jmM} {Q : Option Value → jmM → Prop} : AW d 289 644 [l0, l1, l2, l3] [v0, v1, v2] m Q ↔ AW d 289 645 [l0, l1, l2, l3] [.int 1, v0, v1, v2] m Q := A_iconst hB_L_law dL_law_644 (by decide)
theorem dL_law_645 : decode cL_law 645 = .ok (.iadd, 1) := by decide +kernel
theorem tL_law_645 {d : Nat} {l0 l1 l2 l3 : Option Value} {v2 v3 : Value} {x y : Int32} {m : jmM} {Q : Option Value → jmM → Prop} : AW d 289 645 [l0, l1, l2, l3] [.int y, .int x, v2, v3] m Q ↔ AW d 289 646 [l0, l1, l2, l3] [.int (x + y), v2, v3] m Q := A_iadd hB_L_law dL_law_645
theorem dL_law_646 : decode cL_law 646 = .ok (.iaload, 1) := by decide +kernel
theorem tL_law_646 {d : Nat} {l0 l1 l2 l3 : Option Value} {v2 : Value} {i : Int32} {a : Nat} {m : jmM} {Q : Option Value → jmM → Prop} : AW d 289 646 [l0, l1, l2, l3] [.int i, .ref a, v2] m Q ↔ (((mS m a).1 = 20 ∨ a = jScr) ∧ jIx i (mS m a).2) ∧ AW d 289 647 [l0, l1, l2, l3] [.int (mI m a (jx i)), v2] m Q := A_iaload hB_L_law dL_law_646
theorem dL_law_647 : decode cL_law 647 = .ok (.invokevirtual 73, 3) := by decide +kernel
theorem tL_law_647 {d : Nat} {l0 l1 l2 l3 : Option Value} {y0 : Value} {a : Nat} {m : jmM} {Q : Option Value → jmM → Prop} : AW d 289 647 [l0, l1, l2, l3] [y0, .ref a] m Q ↔ (mS m a).1 = 11 ∧ CC d 154 [.ref a, y0] m (jK d 289 650 [l0, l1, l2, l3] [] Q) := A_callV hB_L_law dL_law_647 hO_L_law fS_13_73 ⟨Nat.le_of_ble_eq_true rfl, Nat.le_of_ble_eq_true rfl⟩ rfl rfl rfl
theorem dL_law_650 : decode cL_law 650 = .ok (.aload_n 2, 1) := by decide +kernel
theorem tL_law_650 {d : Nat} {l0 l1 l3 : Option Value} {v0 : Value} {x : Nat} {m : jmM} {Q : Option Value → jmM → Prop} : AW d 289 650 [l0, l1, some (.ref x), l3] [v0] m Q ↔ AW d 289 651 [l0, l1, some (.ref x), l3] [.ref x, v0] m Q := A_aload_n hB_L_law dL_law_650 rfl
theorem dL_law_651 : decode cL_law 651 = .ok (.aload_n 0, 1) := by decide +kernel
theorem tL_law_651 {d : Nat} {l1 l2 l3 : Option Value} {v0 v1 : Value} {x : Nat} {m : jmM} {Q : Option Value → jmM → Prop} : AW d 289 651 [some (.ref x), l1, l2, l3] [v0, v1] m Q ↔ AW d 289 652 [some (.ref x), l1, l2, l3] [.ref x, v0, v1] m Q := A_aload_n hB_L_law dL_law_651 rfl
theorem dL_law_652 : decode cL_law 652 = .ok (.iload_n 3, 1) := by decide +kernel
theorem tL_law_652 {d : Nat} {l0 l1 l2 : Option Value} {v0 v1 v2 : Value} {x : Int32} {m : jmM} {Q : Option Value → jmM → Prop} : AW d 289 652 [l0, l1, l2, some (.int x)] [v0, v1, v2] m Q ↔ AW d 289 653 [l0, l1, l2, some (.int x)] [.int x, v0, v1, v2] m Q := A_iload_n hB_L_law dL_law_652 rfl
theorem dL_law_653 : decode cL_law 653 = .ok (.iconst 1, 1) := by decide +kernel
theorem tL_law_653 {d : Nat} {l0 l1 l2 l3 : Option Value} {v0 v1 v2 v3 : Value} {m : jmM} {Q : Option Value → jmM → Prop} : AW d 289 653 [l0, l1, l2, l3] [v0, v1, v2, v3] m Q ↔ AW d 289 654 [l0, l1, l2, l3] [.int 1, v0, v1, v2, v3] m Q := A_iconst hB_L_law dL_law_653 (by decide)
theorem dL_law_654 : decode cL_law 654 = .ok (.iadd, 1) := by decide +kernel
theorem tL_law_654 {d : Nat} {l0 l1 l2 l3 : Option Value} {v2 v3 v4 : Value} {x y : Int32} {m : jmM} {Q : Option Value → jmM → Prop} : AW d 289 654 [l0, l1, l2, l3] [.int y, .int x, v2, v3, v4] m Q ↔ AW d 289 655 [l0, l1, l2, l3] [.int (x + y), v2, v3, v4] m Q := A_iadd hB_L_law dL_law_654
theorem dL_law_655 : decode cL_law 655 = .ok (.iaload, 1) := by decide +kernel
theorem tL_law_655 {d : Nat} {l0 l1 l2 l3 : Option Value} {v2 v3 : Value} {i : Int32} {a : Nat} {m : jmM} {Q : Option Value → jmM → Prop} : AW d 289 655 [l0, l1, l2, l3] [.int i, .ref a, v2, v3] m Q ↔ (((mS m a).1 = 20 ∨ a = jScr) ∧ jIx i (mS m a).2) ∧ AW d 289 656 [l0, l1, l2, l3] [.int (mI m a (jx i)), v2, v3] m Q := A_iaload hB_L_law dL_law_655
theorem dL_law_656 : decode cL_law 656 = .ok (.invokevirtual 76, 3) := by decide +kernel
theorem tL_law_656 {d : Nat} {l0 l1 l2 l3 : Option Value} {v2 : Value} {y0 : Value} {a : Nat} {m : jmM} {Q : Option Value → jmM → Prop} : AW d 289 656 [l0, l1, l2, l3] [y0, .ref a, v2] m Q ↔ (mS m a).1 = 12 ∧ CC d 244 [.ref a, y0] m (jK d 289 659 [l0, l1, l2, l3] [v2] Q) := A_callV hB_L_law dL_law_656 hO_L_law fS_13_76 ⟨Nat.le_of_ble_eq_true rfl, Nat.le_of_ble_eq_true rfl⟩ rfl rfl rfl
theorem dL_law_659 : decode cL_law 659 = .ok (.if_icmp .eq 763, 3) := by decide +kernel
theorem tL_law_659 {d : Nat} {l0 l1 l2 l3 : Option Value} {x y : Int32} {m : jmM} {Q : Option Value → jmM → Prop} : AW d 289 659 [l0, l1, l2, l3] [.int y, .int x] m Q ↔ if x = y then AW d 289 1422 [l0, l1, l2, l3] [] m Q else AW d 289 662 [l0, l1, l2, l3] [] m Q := A_icmp_eq hB_L_law dL_law_659 (by decide)
theorem dL_law_662 : decode cL_law 662 = .ok (.iconst 0, 1) := by decide +kernel
theorem tL_law_662 {d : Nat} {l0 l1 l2 l3 : Option Value} {m : jmM} {Q : Option Value → jmM → Prop} : AW d 289 662 [l0, l1, l2, l3] [] m Q ↔ AW d 289 663 [l0, l1, l2, l3] [.int 0] m Q := A_iconst hB_L_law dL_law_662 (by decide)
theorem dL_law_663 : decode cL_law 663 = .ok (.ireturn, 1) := by decide +kernel
theorem tL_law_663 {d : Nat} {l0 l1 l2 l3 : Option Value} {x : Int32} {m : jmM} {Q : Option Value → jmM → Prop} : AW d 289 663 [l0, l1, l2, l3] [.int x] m Q ↔ jBool x ∧ Q (some (.int x)) m := A_zreturn hB_L_law dL_law_663 hR_L_law
theorem dL_law_664 : decode cL_law 664 = .ok (.aload_n 1, 1) := by decide +kernel
theorem tL_law_664 {d : Nat} {l0 l2 l3 : Option Value} {x : Nat} {m : jmM} {Q : Option Value → jmM → Prop} : AW d 289 664 [l0, some (.ref x), l2, l3] [] m Q ↔ AW d 289 665 [l0, some (.ref x), l2, l3] [.ref x] m Q := A_aload_n hB_L_law dL_law_664 rfl
theorem dL_law_665 : decode cL_law 665 = .ok (.aload_n 0, 1) := by decide +kernel
theorem tL_law_665 {d : Nat} {l1 l2 l3 : Option Value} {v0 : Value} {x : Nat} {m : jmM} {Q : Option Value → jmM → Prop} : AW d 289 665 [some (.ref x), l1, l2, l3] [v0] m Q ↔ AW d 289 666 [some (.ref x), l1, l2, l3] [.ref x, v0] m Q := A_aload_n hB_L_law dL_law_665 rfl
theorem dL_law_666 : decode cL_law 666 = .ok (.iload_n 3, 1) := by decide +kernel
theorem tL_law_666 {d : Nat} {l0 l1 l2 : Option Value} {v0 v1 : Value} {x : Int32} {m : jmM} {Q : Option Value → jmM → Prop} : AW d 289 666 [l0, l1, l2, some (.int x)] [v0, v1] m Q ↔ AW d 289 667 [l0, l1, l2, some (.int x)] [.int x, v0, v1] m Q := A_iload_n hB_L_law dL_law_666 rfl
theorem dL_law_667 : decode cL_law 667 = .ok (.iconst 1, 1) := by decide +kernel
theorem tL_law_667 {d : Nat} {l0 l1 l2 l3 : Option Value} {v0 v1 v2 : Value} {m : jmM} {Q : Option Value → jmM → Prop} : AW d 289 667 [l0, l1, l2, l3] [v0, v1, v2] m Q ↔ AW d 289 668 [l0, l1, l2, l3] [.int 1, v0, v1, v2] m Q := A_iconst hB_L_law dL_law_667 (by decide)
theorem dL_law_668 : decode cL_law 668 = .ok (.iadd, 1) := by decide +kernel
theorem tL_law_668 {d : Nat} {l0 l1 l2 l3 : Option Value} {v2 v3 : Value} {x y : Int32} {m : jmM} {Q : Option Value → jmM → Prop} : AW d 289 668 [l0, l1, l2, l3] [.int y, .int x, v2, v3] m Q ↔ AW d 289 669 [l0, l1, l2, l3] [.int (x + y), v2, v3] m Q := A_iadd hB_L_law dL_law_668
theorem dL_law_669 : decode cL_law 669 = .ok (.iaload, 1) := by decide +kernel
theorem tL_law_669 {d : Nat} {l0 l1 l2 l3 : Option Value} {v2 : Value} {i : Int32} {a : Nat} {m : jmM} {Q : Option Value → jmM → Prop} : AW d 289 669 [l0, l1, l2, l3] [.int i, .ref a, v2] m Q ↔ (((mS m a).1 = 20 ∨ a = jScr) ∧ jIx i (mS m a).2) ∧ AW d 289 670 [l0, l1, l2, l3] [.int (mI m a (jx i)), v2] m Q := A_iaload hB_L_law dL_law_669
theorem dL_law_670 : decode cL_law 670 = .ok (.invokevirtual 77, 3) := by decide +kernel
theorem tL_law_670 {d : Nat} {l0 l1 l2 l3 : Option Value} {y0 : Value} {a : Nat} {m : jmM} {Q : Option Value → jmM → Prop} : AW d 289 670 [l0, l1, l2, l3] [y0, .ref a] m Q ↔ (mS m a).1 = 11 ∧ CC d 155 [.ref a, y0] m (jK d 289 673 [l0, l1, l2, l3] [] Q) := A_callV hB_L_law dL_law_670 hO_L_law fS_13_77 ⟨Nat.le_of_ble_eq_true rfl, Nat.le_of_ble_eq_true rfl⟩ rfl rfl rfl
theorem dL_law_673 : decode cL_law 673 = .ok (.aload_n 2, 1) := by decide +kernel
theorem tL_law_673 {d : Nat} {l0 l1 l3 : Option Value} {v0 : Value} {x : Nat} {m : jmM} {Q : Option Value → jmM → Prop} : AW d 289 673 [l0, l1, some (.ref x), l3] [v0] m Q ↔ AW d 289 674 [l0, l1, some (.ref x), l3] [.ref x, v0] m Q := A_aload_n hB_L_law dL_law_673 rfl
theorem dL_law_674 : decode cL_law 674 = .ok (.aload_n 0, 1) := by decide +kernel
theorem tL_law_674 {d : Nat} {l1 l2 l3 : Option Value} {v0 v1 : Value} {x : Nat} {m : jmM} {Q : Option Value → jmM → Prop} : AW d 289 674 [some (.ref x), l1, l2, l3] [v0, v1] m Q ↔ AW d 289 675 [some (.ref x), l1, l2, l3] [.ref x, v0, v1] m Q := A_aload_n hB_L_law dL_law_674 rfl
theorem dL_law_675 : decode cL_law 675 = .ok (.iload_n 3, 1) := by decide +kernel
theorem tL_law_675 {d : Nat} {l0 l1 l2 : Option Value} {v0 v1 v2 : Value} {x : Int32} {m : jmM} {Q : Option Value → jmM → Prop} : AW d 289 675 [l0, l1, l2, some (.int x)] [v0, v1, v2] m Q ↔ AW d 289 676 [l0, l1, l2, some (.int x)] [.int x, v0, v1, v2] m Q := A_iload_n hB_L_law dL_law_675 rfl
theorem dL_law_676 : decode cL_law 676 = .ok (.iconst 1, 1) := by decide +kernel
theorem tL_law_676 {d : Nat} {l0 l1 l2 l3 : Option Value} {v0 v1 v2 v3 : Value} {m : jmM} {Q : Option Value → jmM → Prop} : AW d 289 676 [l0, l1, l2, l3] [v0, v1, v2, v3] m Q ↔ AW d 289 677 [l0, l1, l2, l3] [.int 1, v0, v1, v2, v3] m Q := A_iconst hB_L_law dL_law_676 (by decide)
theorem dL_law_677 : decode cL_law 677 = .ok (.iadd, 1) := by decide +kernel
theorem tL_law_677 {d : Nat} {l0 l1 l2 l3 : Option Value} {v2 v3 v4 : Value} {x y : Int32} {m : jmM} {Q : Option Value → jmM → Prop} : AW d 289 677 [l0, l1, l2, l3] [.int y, .int x, v2, v3, v4] m Q ↔ AW d 289 678 [l0, l1, l2, l3] [.int (x + y), v2, v3, v4] m Q := A_iadd hB_L_law dL_law_677
theorem dL_law_678 : decode cL_law 678 = .ok (.iaload, 1) := by decide +kernel
theorem tL_law_678 {d : Nat} {l0 l1 l2 l3 : Option Value} {v2 v3 : Value} {i : Int32} {a : Nat} {m : jmM} {Q : Option Value → jmM → Prop} : AW d 289 678 [l0, l1, l2, l3] [.int i, .ref a, v2, v3] m Q ↔ (((mS m a).1 = 20 ∨ a = jScr) ∧ jIx i (mS m a).2) ∧ AW d 289 679 [l0, l1, l2, l3] [.int (mI m a (jx i)), v2, v3] m Q := A_iaload hB_L_law dL_law_678
theorem dL_law_679 : decode cL_law 679 = .ok (.invokevirtual 80, 3) := by decide +kernel
theorem tL_law_679 {d : Nat} {l0 l1 l2 l3 : Option Value} {v2 : Value} {y0 : Value} {a : Nat} {m : jmM} {Q : Option Value → jmM → Prop} : AW d 289 679 [l0, l1, l2, l3] [y0, .ref a, v2] m Q ↔ (mS m a).1 = 12 ∧ CC d 245 [.ref a, y0] m (jK d 289 682 [l0, l1, l2, l3] [v2] Q) := A_callV hB_L_law dL_law_679 hO_L_law fS_13_80 ⟨Nat.le_of_ble_eq_true rfl, Nat.le_of_ble_eq_true rfl⟩ rfl rfl rfl
theorem dL_law_682 : decode cL_law 682 = .ok (.if_icmp .eq 740, 3) := by decide +kernel
theorem tL_law_682 {d : Nat} {l0 l1 l2 l3 : Option Value} {x y : Int32} {m : jmM} {Q : Option Value → jmM → Prop} : AW d 289 682 [l0, l1, l2, l3] [.int y, .int x] m Q ↔ if x = y then AW d 289 1422 [l0, l1, l2, l3] [] m Q else AW d 289 685 [l0, l1, l2, l3] [] m Q := A_icmp_eq hB_L_law dL_law_682 (by decide)
theorem dL_law_685 : decode cL_law 685 = .ok (.iconst 0, 1) := by decide +kernel
theorem tL_law_685 {d : Nat} {l0 l1 l2 l3 : Option Value} {m : jmM} {Q : Option Value → jmM → Prop} : AW d 289 685 [l0, l1, l2, l3] [] m Q ↔ AW d 289 686 [l0, l1, l2, l3] [.int 0] m Q := A_iconst hB_L_law dL_law_685 (by decide)
theorem dL_law_686 : decode cL_law 686 = .ok (.ireturn, 1) := by decide +kernel
theorem tL_law_686 {d : Nat} {l0 l1 l2 l3 : Option Value} {x : Int32} {m : jmM} {Q : Option Value → jmM → Prop} : AW d 289 686 [l0, l1, l2, l3] [.int x] m Q ↔ jBool x ∧ Q (some (.int x)) m := A_zreturn hB_L_law dL_law_686 hR_L_law
theorem dL_law_687 : decode cL_law 687 = .ok (.aload_n 1, 1) := by decide +kernel
theorem tL_law_687 {d : Nat} {l0 l2 l3 : Option Value} {x : Nat} {m : jmM} {Q : Option Value → jmM → Prop} : AW d 289 687 [l0, some (.ref x), l2, l3] [] m Q ↔ AW d 289 688 [l0, some (.ref x), l2, l3] [.ref x] m Q := A_aload_n hB_L_law dL_law_687 rfl
theorem dL_law_688 : decode cL_law 688 = .ok (.aload_n 0, 1) := by decide +kernel
theorem tL_law_688 {d : Nat} {l1 l2 l3 : Option Value} {v0 : Value} {x : Nat} {m : jmM} {Q : Option Value → jmM → Prop} : AW d 289 688 [some (.ref x), l1, l2, l3] [v0] m Q ↔ AW d 289 689 [some (.ref x), l1, l2, l3] [.ref x, v0] m Q := A_aload_n hB_L_law dL_law_688 rfl
theorem dL_law_689 : decode cL_law 689 = .ok (.iload_n 3, 1) := by decide +kernel
theorem tL_law_689 {d : Nat} {l0 l1 l2 : Option Value} {v0 v1 : Value} {x : Int32} {m : jmM} {Q : Option Value → jmM → Prop} : AW d 289 689 [l0, l1, l2, some (.int x)] [v0, v1] m Q ↔ AW d 289 690 [l0, l1, l2, some (.int x)] [.int x, v0, v1] m Q := A_iload_n hB_L_law dL_law_689 rfl
theorem dL_law_690 : decode cL_law 690 = .ok (.iconst 1, 1) := by decide +kernel
theorem tL_law_690 {d : Nat} {l0 l1 l2 l3 : Option Value} {v0 v1 v2 : Value} {m : jmM} {Q : Option Value → jmM → Prop} : AW d 289 690 [l0, l1, l2, l3] [v0, v1, v2] m Q ↔ AW d 289 691 [l0, l1, l2, l3] [.int 1, v0, v1, v2] m Q := A_iconst hB_L_law dL_law_690 (by decide)
theorem dL_law_691 : decode cL_law 691 = .ok (.iadd, 1) := by decide +kernel
theorem tL_law_691 {d : Nat} {l0 l1 l2 l3 : Option Value} {v2 v3 : Value} {x y : Int32} {m : jmM} {Q : Option Value → jmM → Prop} : AW d 289 691 [l0, l1, l2, l3] [.int y, .int x, v2, v3] m Q ↔ AW d 289 692 [l0, l1, l2, l3] [.int (x + y), v2, v3] m Q := A_iadd hB_L_law dL_law_691
theorem dL_law_692 : decode cL_law 692 = .ok (.iaload, 1) := by decide +kernel
theorem tL_law_692 {d : Nat} {l0 l1 l2 l3 : Option Value} {v2 : Value} {i : Int32} {a : Nat} {m : jmM} {Q : Option Value → jmM → Prop} : AW d 289 692 [l0, l1, l2, l3] [.int i, .ref a, v2] m Q ↔ (((mS m a).1 = 20 ∨ a = jScr) ∧ jIx i (mS m a).2) ∧ AW d 289 693 [l0, l1, l2, l3] [.int (mI m a (jx i)), v2] m Q := A_iaload hB_L_law dL_law_692
theorem dL_law_693 : decode cL_law 693 = .ok (.invokevirtual 81, 3) := by decide +kernel
theorem tL_law_693 {d : Nat} {l0 l1 l2 l3 : Option Value} {y0 : Value} {a : Nat} {m : jmM} {Q : Option Value → jmM → Prop} : AW d 289 693 [l0, l1, l2, l3] [y0, .ref a] m Q ↔ (mS m a).1 = 11 ∧ CC d 156 [.ref a, y0] m (jK d 289 696 [l0, l1, l2, l3] [] Q) := A_callV hB_L_law dL_law_693 hO_L_law fS_13_81 ⟨Nat.le_of_ble_eq_true rfl, Nat.le_of_ble_eq_true rfl⟩ rfl rfl rfl
theorem dL_law_696 : decode cL_law 696 = .ok (.aload_n 2, 1) := by decide +kernel
theorem tL_law_696 {d : Nat} {l0 l1 l3 : Option Value} {v0 : Value} {x : Nat} {m : jmM} {Q : Option Value → jmM → Prop} : AW d 289 696 [l0, l1, some (.ref x), l3] [v0] m Q ↔ AW d 289 697 [l0, l1, some (.ref x), l3] [.ref x, v0] m Q := A_aload_n hB_L_law dL_law_696 rfl
theorem dL_law_697 : decode cL_law 697 = .ok (.aload_n 0, 1) := by decide +kernel
theorem tL_law_697 {d : Nat} {l1 l2 l3 : Option Value} {v0 v1 : Value} {x : Nat} {m : jmM} {Q : Option Value → jmM → Prop} : AW d 289 697 [some (.ref x), l1, l2, l3] [v0, v1] m Q ↔ AW d 289 698 [some (.ref x), l1, l2, l3] [.ref x, v0, v1] m Q := A_aload_n hB_L_law dL_law_697 rfl
theorem dL_law_698 : decode cL_law 698 = .ok (.iload_n 3, 1) := by decide +kernel
theorem tL_law_698 {d : Nat} {l0 l1 l2 : Option Value} {v0 v1 v2 : Value} {x : Int32} {m : jmM} {Q : Option Value → jmM → Prop} : AW d 289 698 [l0, l1, l2, some (.int x)] [v0, v1, v2] m Q ↔ AW d 289 699 [l0, l1, l2, some (.int x)] [.int x, v0, v1, v2] m Q := A_iload_n hB_L_law dL_law_698 rfl
theorem dL_law_699 : decode cL_law 699 = .ok (.iconst 1, 1) := by decide +kernel
theorem tL_law_699 {d : Nat} {l0 l1 l2 l3 : Option Value} {v0 v1 v2 v3 : Value} {m : jmM} {Q : Option Value → jmM → Prop} : AW d 289 699 [l0, l1, l2, l3] [v0, v1, v2, v3] m Q ↔ AW d 289 700 [l0, l1, l2, l3] [.int 1, v0, v1, v2, v3] m Q := A_iconst hB_L_law dL_law_699 (by decide)
theorem dL_law_700 : decode cL_law 700 = .ok (.iadd, 1) := by decide +kernel
theorem tL_law_700 {d : Nat} {l0 l1 l2 l3 : Option Value} {v2 v3 v4 : Value} {x y : Int32} {m : jmM} {Q : Option Value → jmM → Prop} : AW d 289 700 [l0, l1, l2, l3] [.int y, .int x, v2, v3, v4] m Q ↔ AW d 289 701 [l0, l1, l2, l3] [.int (x + y), v2, v3, v4] m Q := A_iadd hB_L_law dL_law_700
theorem dL_law_701 : decode cL_law 701 = .ok (.iaload, 1) := by decide +kernel
theorem tL_law_701 {d : Nat} {l0 l1 l2 l3 : Option Value} {v2 v3 : Value} {i : Int32} {a : Nat} {m : jmM} {Q : Option Value → jmM → Prop} : AW d 289 701 [l0, l1, l2, l3] [.int i, .ref a, v2, v3] m Q ↔ (((mS m a).1 = 20 ∨ a = jScr) ∧ jIx i (mS m a).2) ∧ AW d 289 702 [l0, l1, l2, l3] [.int (mI m a (jx i)), v2, v3] m Q := A_iaload hB_L_law dL_law_701
theorem dL_law_702 : decode cL_law 702 = .ok (.invokevirtual 84, 3) := by decide +kernel
theorem tL_law_702 {d : Nat} {l0 l1 l2 l3 : Option Value} {v2 : Value} {y0 : Value} {a : Nat} {m : jmM} {Q : Option Value → jmM → Prop} : AW d 289 702 [l0, l1, l2, l3] [y0, .ref a, v2] m Q ↔ (mS m a).1 = 12 ∧ CC d 247 [.ref a, y0] m (jK d 289 705 [l0, l1, l2, l3] [v2] Q) := A_callV hB_L_law dL_law_702 hO_L_law fS_13_84 ⟨Nat.le_of_ble_eq_true rfl, Nat.le_of_ble_eq_true rfl⟩ rfl rfl rfl
theorem dL_law_705 : decode cL_law 705 = .ok (.if_icmp .eq 717, 3) := by decide +kernel
theorem tL_law_705 {d : Nat} {l0 l1 l2 l3 : Option Value} {x y : Int32} {m : jmM} {Q : Option Value → jmM → Prop} : AW d 289 705 [l0, l1, l2, l3] [.int y, .int x] m Q ↔ if x = y then AW d 289 1422 [l0, l1, l2, l3] [] m Q else AW d 289 708 [l0, l1, l2, l3] [] m Q := A_icmp_eq hB_L_law dL_law_705 (by decide)
theorem dL_law_708 : decode cL_law 708 = .ok (.iconst 0, 1) := by decide +kernel
theorem tL_law_708 {d : Nat} {l0 l1 l2 l3 : Option Value} {m : jmM} {Q : Option Value → jmM → Prop} : AW d 289 708 [l0, l1, l2, l3] [] m Q ↔ AW d 289 709 [l0, l1, l2, l3] [.int 0] m Q := A_iconst hB_L_law dL_law_708 (by decide)
theorem dL_law_709 : decode cL_law 709 = .ok (.ireturn, 1) := by decide +kernel
theorem tL_law_709 {d : Nat} {l0 l1 l2 l3 : Option Value} {x : Int32} {m : jmM} {Q : Option Value → jmM → Prop} : AW d 289 709 [l0, l1, l2, l3] [.int x] m Q ↔ jBool x ∧ Q (some (.int x)) m := A_zreturn hB_L_law dL_law_709 hR_L_law
theorem dL_law_710 : decode cL_law 710 = .ok (.aload_n 1, 1) := by decide +kernel
theorem tL_law_710 {d : Nat} {l0 l2 l3 : Option Value} {x : Nat} {m : jmM} {Q : Option Value → jmM → Prop} : AW d 289 710 [l0, some (.ref x), l2, l3] [] m Q ↔ AW d 289 711 [l0, some (.ref x), l2, l3] [.ref x] m Q := A_aload_n hB_L_law dL_law_710 rfl
theorem dL_law_711 : decode cL_law 711 = .ok (.invokevirtual 85, 3) := by decide +kernel
theorem tL_law_711 {d : Nat} {l0 l1 l2 l3 : Option Value} {a : Nat} {m : jmM} {Q : Option Value → jmM → Prop} : AW d 289 711 [l0, l1, l2, l3] [.ref a] m Q ↔ (mS m a).1 = 11 ∧ CC d 157 [.ref a] m (jK d 289 714 [l0, l1, l2, l3] [] Q) := A_callV hB_L_law dL_law_711 hO_L_law fS_13_85 ⟨Nat.le_of_ble_eq_true rfl, Nat.le_of_ble_eq_true rfl⟩ rfl rfl rfl
theorem dL_law_714 : decode cL_law 714 = .ok (.aload_n 2, 1) := by decide +kernel
theorem tL_law_714 {d : Nat} {l0 l1 l3 : Option Value} {v0 : Value} {x : Nat} {m : jmM} {Q : Option Value → jmM → Prop} : AW d 289 714 [l0, l1, some (.ref x), l3] [v0] m Q ↔ AW d 289 715 [l0, l1, some (.ref x), l3] [.ref x, v0] m Q := A_aload_n hB_L_law dL_law_714 rfl
theorem dL_law_715 : decode cL_law 715 = .ok (.invokevirtual 88, 3) := by decide +kernel
theorem tL_law_715 {d : Nat} {l0 l1 l2 l3 : Option Value} {v1 : Value} {a : Nat} {m : jmM} {Q : Option Value → jmM → Prop} : AW d 289 715 [l0, l1, l2, l3] [.ref a, v1] m Q ↔ (mS m a).1 = 12 ∧ CC d 251 [.ref a] m (jK d 289 718 [l0, l1, l2, l3] [v1] Q) := A_callV hB_L_law dL_law_715 hO_L_law fS_13_88 ⟨Nat.le_of_ble_eq_true rfl, Nat.le_of_ble_eq_true rfl⟩ rfl rfl rfl
theorem dL_law_718 : decode cL_law 718 = .ok (.if_icmp .eq 704, 3) := by decide +kernel
theorem tL_law_718 {d : Nat} {l0 l1 l2 l3 : Option Value} {x y : Int32} {m : jmM} {Q : Option Value → jmM → Prop} : AW d 289 718 [l0, l1, l2, l3] [.int y, .int x] m Q ↔ if x = y then AW d 289 1422 [l0, l1, l2, l3] [] m Q else AW d 289 721 [l0, l1, l2, l3] [] m Q := A_icmp_eq hB_L_law dL_law_718 (by decide)
theorem dL_law_721 : decode cL_law 721 = .ok (.iconst 0, 1) := by decide +kernel
theorem tL_law_721 {d : Nat} {l0 l1 l2 l3 : Option Value} {m : jmM} {Q : Option Value → jmM → Prop} : AW d 289 721 [l0, l1, l2, l3] [] m Q ↔ AW d 289 722 [l0, l1, l2, l3] [.int 0] m Q := A_iconst hB_L_law dL_law_721 (by decide)
theorem dL_law_722 : decode cL_law 722 = .ok (.ireturn, 1) := by decide +kernel
theorem tL_law_722 {d : Nat} {l0 l1 l2 l3 : Option Value} {x : Int32} {m : jmM} {Q : Option Value → jmM → Prop} : AW d 289 722 [l0, l1, l2, l3] [.int x] m Q ↔ jBool x ∧ Q (some (.int x)) m := A_zreturn hB_L_law dL_law_722 hR_L_law
theorem dL_law_723 : decode cL_law 723 = .ok (.aload_n 1, 1) := by decide +kernel
theorem tL_law_723 {d : Nat} {l0 l2 l3 : Option Value} {x : Nat} {m : jmM} {Q : Option Value → jmM → Prop} : AW d 289 723 [l0, some (.ref x), l2, l3] [] m Q ↔ AW d 289 724 [l0, some (.ref x), l2, l3] [.ref x] m Q := A_aload_n hB_L_law dL_law_723 rfl
theorem dL_law_724 : decode cL_law 724 = .ok (.invokevirtual 89, 3) := by decide +kernel
theorem tL_law_724 {d : Nat} {l0 l1 l2 l3 : Option Value} {a : Nat} {m : jmM} {Q : Option Value → jmM → Prop} : AW d 289 724 [l0, l1, l2, l3] [.ref a] m Q ↔ (mS m a).1 = 11 ∧ CC d 158 [.ref a] m (jK d 289 727 [l0, l1, l2, l3] [] Q) := A_callV hB_L_law dL_law_724 hO_L_law fS_13_89 ⟨Nat.le_of_ble_eq_true rfl, Nat.le_of_ble_eq_true rfl⟩ rfl rfl rfl
theorem dL_law_727 : decode cL_law 727 = .ok (.aload_n 2, 1) := by decide +kernel
theorem tL_law_727 {d : Nat} {l0 l1 l3 : Option Value} {v0 : Value} {x : Nat} {m : jmM} {Q : Option Value → jmM → Prop} : AW d 289 727 [l0, l1, some (.ref x), l3] [v0] m Q ↔ AW d 289 728 [l0, l1, some (.ref x), l3] [.ref x, v0] m Q := A_aload_n hB_L_law dL_law_727 rfl
theorem dL_law_728 : decode cL_law 728 = .ok (.invokevirtual 92, 3) := by decide +kernel
theorem tL_law_728 {d : Nat} {l0 l1 l2 l3 : Option Value} {v1 : Value} {a : Nat} {m : jmM} {Q : Option Value → jmM → Prop} : AW d 289 728 [l0, l1, l2, l3] [.ref a, v1] m Q ↔ (mS m a).1 = 12 ∧ CC d 252 [.ref a] m (jK d 289 731 [l0, l1, l2, l3] [v1] Q) := A_callV hB_L_law dL_law_728 hO_L_law fS_13_92 ⟨Nat.le_of_ble_eq_true rfl, Nat.le_of_ble_eq_true rfl⟩ rfl rfl rfl
theorem dL_law_731 : decode cL_law 731 = .ok (.if_icmp .eq 691, 3) := by decide +kernel
theorem tL_law_731 {d : Nat} {l0 l1 l2 l3 : Option Value} {x y : Int32} {m : jmM} {Q : Option Value → jmM → Prop} : AW d 289 731 [l0, l1, l2, l3] [.int y, .int x] m Q ↔ if x = y then AW d 289 1422 [l0, l1, l2, l3] [] m Q else AW d 289 734 [l0, l1, l2, l3] [] m Q := A_icmp_eq hB_L_law dL_law_731 (by decide)
theorem dL_law_734 : decode cL_law 734 = .ok (.iconst 0, 1) := by decide +kernel
theorem tL_law_734 {d : Nat} {l0 l1 l2 l3 : Option Value} {m : jmM} {Q : Option Value → jmM → Prop} : AW d 289 734 [l0, l1, l2, l3] [] m Q ↔ AW d 289 735 [l0, l1, l2, l3] [.int 0] m Q := A_iconst hB_L_law dL_law_734 (by decide)
theorem dL_law_735 : decode cL_law 735 = .ok (.ireturn, 1) := by decide +kernel
theorem tL_law_735 {d : Nat} {l0 l1 l2 l3 : Option Value} {x : Int32} {m : jmM} {Q : Option Value → jmM → Prop} : AW d 289 735 [l0, l1, l2, l3] [.int x] m Q ↔ jBool x ∧ Q (some (.int x)) m := A_zreturn hB_L_law dL_law_735 hR_L_law
theorem dL_law_736 : decode cL_law 736 = .ok (.aload_n 1, 1) := by decide +kernel
theorem tL_law_736 {d : Nat} {l0 l2 l3 : Option Value} {x : Nat} {m : jmM} {Q : Option Value → jmM → Prop} : AW d 289 736 [l0, some (.ref x), l2, l3] [] m Q ↔ AW d 289 737 [l0, some (.ref x), l2, l3] [.ref x] m Q := A_aload_n hB_L_law dL_law_736 rfl
theorem dL_law_737 : decode cL_law 737 = .ok (.aload_n 0, 1) := by decide +kernel
theorem tL_law_737 {d : Nat} {l1 l2 l3 : Option Value} {v0 : Value} {x : Nat} {m : jmM} {Q : Option Value → jmM → Prop} : AW d 289 737 [some (.ref x), l1, l2, l3] [v0] m Q ↔ AW d 289 738 [some (.ref x), l1, l2, l3] [.ref x, v0] m Q := A_aload_n hB_L_law dL_law_737 rfl
theorem dL_law_738 : decode cL_law 738 = .ok (.iload_n 3, 1) := by decide +kernel
theorem tL_law_738 {d : Nat} {l0 l1 l2 : Option Value} {v0 v1 : Value} {x : Int32} {m : jmM} {Q : Option Value → jmM → Prop} : AW d 289 738 [l0, l1, l2, some (.int x)] [v0, v1] m Q ↔ AW d 289 739 [l0, l1, l2, some (.int x)] [.int x, v0, v1] m Q := A_iload_n hB_L_law dL_law_738 rfl
theorem dL_law_739 : decode cL_law 739 = .ok (.iconst 1, 1) := by decide +kernel
theorem tL_law_739 {d : Nat} {l0 l1 l2 l3 : Option Value} {v0 v1 v2 : Value} {m : jmM} {Q : Option Value → jmM → Prop} : AW d 289 739 [l0, l1, l2, l3] [v0, v1, v2] m Q ↔ AW d 289 740 [l0, l1, l2, l3] [.int 1, v0, v1, v2] m Q := A_iconst hB_L_law dL_law_739 (by decide)
theorem dL_law_740 : decode cL_law 740 = .ok (.iadd, 1) := by decide +kernel
theorem tL_law_740 {d : Nat} {l0 l1 l2 l3 : Option Value} {v2 v3 : Value} {x y : Int32} {m : jmM} {Q : Option Value → jmM → Prop} : AW d 289 740 [l0, l1, l2, l3] [.int y, .int x, v2, v3] m Q ↔ AW d 289 741 [l0, l1, l2, l3] [.int (x + y), v2, v3] m Q := A_iadd hB_L_law dL_law_740
theorem dL_law_741 : decode cL_law 741 = .ok (.iaload, 1) := by decide +kernel
theorem tL_law_741 {d : Nat} {l0 l1 l2 l3 : Option Value} {v2 : Value} {i : Int32} {a : Nat} {m : jmM} {Q : Option Value → jmM → Prop} : AW d 289 741 [l0, l1, l2, l3] [.int i, .ref a, v2] m Q ↔ (((mS m a).1 = 20 ∨ a = jScr) ∧ jIx i (mS m a).2) ∧ AW d 289 742 [l0, l1, l2, l3] [.int (mI m a (jx i)), v2] m Q := A_iaload hB_L_law dL_law_741
theorem dL_law_742 : decode cL_law 742 = .ok (.aload_n 0, 1) := by decide +kernel
theorem tL_law_742 {d : Nat} {l1 l2 l3 : Option Value} {v0 v1 : Value} {x : Nat} {m : jmM} {Q : Option Value → jmM → Prop} : AW d 289 742 [some (.ref x), l1, l2, l3] [v0, v1] m Q ↔ AW d 289 743 [some (.ref x), l1, l2, l3] [.ref x, v0, v1] m Q := A_aload_n hB_L_law dL_law_742 rfl
theorem dL_law_743 : decode cL_law 743 = .ok (.iload_n 3, 1) := by decide +kernel
theorem tL_law_743 {d : Nat} {l0 l1 l2 : Option Value} {v0 v1 v2 : Value} {x : Int32} {m : jmM} {Q : Option Value → jmM → Prop} : AW d 289 743 [l0, l1, l2, some (.int x)] [v0, v1, v2] m Q ↔ AW d 289 744 [l0, l1, l2, some (.int x)] [.int x, v0, v1, v2] m Q := A_iload_n hB_L_law dL_law_743 rfl
theorem dL_law_744 : decode cL_law 744 = .ok (.iconst 2, 1) := by decide +kernel
theorem tL_law_744 {d : Nat} {l0 l1 l2 l3 : Option Value} {v0 v1 v2 v3 : Value} {m : jmM} {Q : Option Value → jmM → Prop} : AW d 289 744 [l0, l1, l2, l3] [v0, v1, v2, v3] m Q ↔ AW d 289 745 [l0, l1, l2, l3] [.int 2, v0, v1, v2, v3] m Q := A_iconst hB_L_law dL_law_744 (by decide)
theorem dL_law_745 : decode cL_law 745 = .ok (.iadd, 1) := by decide +kernel
theorem tL_law_745 {d : Nat} {l0 l1 l2 l3 : Option Value} {v2 v3 v4 : Value} {x y : Int32} {m : jmM} {Q : Option Value → jmM → Prop} : AW d 289 745 [l0, l1, l2, l3] [.int y, .int x, v2, v3, v4] m Q ↔ AW d 289 746 [l0, l1, l2, l3] [.int (x + y), v2, v3, v4] m Q := A_iadd hB_L_law dL_law_745
theorem dL_law_746 : decode cL_law 746 = .ok (.iaload, 1) := by decide +kernel
theorem tL_law_746 {d : Nat} {l0 l1 l2 l3 : Option Value} {v2 v3 : Value} {i : Int32} {a : Nat} {m : jmM} {Q : Option Value → jmM → Prop} : AW d 289 746 [l0, l1, l2, l3] [.int i, .ref a, v2, v3] m Q ↔ (((mS m a).1 = 20 ∨ a = jScr) ∧ jIx i (mS m a).2) ∧ AW d 289 747 [l0, l1, l2, l3] [.int (mI m a (jx i)), v2, v3] m Q := A_iaload hB_L_law dL_law_746
theorem dL_law_747 : decode cL_law 747 = .ok (.aload_n 0, 1) := by decide +kernel
theorem tL_law_747 {d : Nat} {l1 l2 l3 : Option Value} {v0 v1 v2 : Value} {x : Nat} {m : jmM} {Q : Option Value → jmM → Prop} : AW d 289 747 [some (.ref x), l1, l2, l3] [v0, v1, v2] m Q ↔ AW d 289 748 [some (.ref x), l1, l2, l3] [.ref x, v0, v1, v2] m Q := A_aload_n hB_L_law dL_law_747 rfl
theorem dL_law_748 : decode cL_law 748 = .ok (.iload_n 3, 1) := by decide +kernel
theorem tL_law_748 {d : Nat} {l0 l1 l2 : Option Value} {v0 v1 v2 v3 : Value} {x : Int32} {m : jmM} {Q : Option Value → jmM → Prop} : AW d 289 748 [l0, l1, l2, some (.int x)] [v0, v1, v2, v3] m Q ↔ AW d 289 749 [l0, l1, l2, some (.int x)] [.int x, v0, v1, v2, v3] m Q := A_iload_n hB_L_law dL_law_748 rfl
theorem dL_law_749 : decode cL_law 749 = .ok (.iconst 3, 1) := by decide +kernel
theorem tL_law_749 {d : Nat} {l0 l1 l2 l3 : Option Value} {v0 v1 v2 v3 v4 : Value} {m : jmM} {Q : Option Value → jmM → Prop} : AW d 289 749 [l0, l1, l2, l3] [v0, v1, v2, v3, v4] m Q ↔ AW d 289 750 [l0, l1, l2, l3] [.int 3, v0, v1, v2, v3, v4] m Q := A_iconst hB_L_law dL_law_749 (by decide)
theorem dL_law_750 : decode cL_law 750 = .ok (.iadd, 1) := by decide +kernel
theorem tL_law_750 {d : Nat} {l0 l1 l2 l3 : Option Value} {v2 v3 v4 v5 : Value} {x y : Int32} {m : jmM} {Q : Option Value → jmM → Prop} : AW d 289 750 [l0, l1, l2, l3] [.int y, .int x, v2, v3, v4, v5] m Q ↔ AW d 289 751 [l0, l1, l2, l3] [.int (x + y), v2, v3, v4, v5] m Q := A_iadd hB_L_law dL_law_750
theorem dL_law_751 : decode cL_law 751 = .ok (.iaload, 1) := by decide +kernel
theorem tL_law_751 {d : Nat} {l0 l1 l2 l3 : Option Value} {v2 v3 v4 : Value} {i : Int32} {a : Nat} {m : jmM} {Q : Option Value → jmM → Prop} : AW d 289 751 [l0, l1, l2, l3] [.int i, .ref a, v2, v3, v4] m Q ↔ (((mS m a).1 = 20 ∨ a = jScr) ∧ jIx i (mS m a).2) ∧ AW d 289 752 [l0, l1, l2, l3] [.int (mI m a (jx i)), v2, v3, v4] m Q := A_iaload hB_L_law dL_law_751
theorem dL_law_752 : decode cL_law 752 = .ok (.aload_n 0, 1) := by decide +kernel
theorem tL_law_752 {d : Nat} {l1 l2 l3 : Option Value} {v0 v1 v2 v3 : Value} {x : Nat} {m : jmM} {Q : Option Value → jmM → Prop} : AW d 289 752 [some (.ref x), l1, l2, l3] [v0, v1, v2, v3] m Q ↔ AW d 289 753 [some (.ref x), l1, l2, l3] [.ref x, v0, v1, v2, v3] m Q := A_aload_n hB_L_law dL_law_752 rfl
theorem dL_law_753 : decode cL_law 753 = .ok (.iload_n 3, 1) := by decide +kernel
theorem tL_law_753 {d : Nat} {l0 l1 l2 : Option Value} {v0 v1 v2 v3 v4 : Value} {x : Int32} {m : jmM} {Q : Option Value → jmM → Prop} : AW d 289 753 [l0, l1, l2, some (.int x)] [v0, v1, v2, v3, v4] m Q ↔ AW d 289 754 [l0, l1, l2, some (.int x)] [.int x, v0, v1, v2, v3, v4] m Q := A_iload_n hB_L_law dL_law_753 rfl
theorem dL_law_754 : decode cL_law 754 = .ok (.iconst 4, 1) := by decide +kernel
theorem tL_law_754 {d : Nat} {l0 l1 l2 l3 : Option Value} {v0 v1 v2 v3 v4 v5 : Value} {m : jmM} {Q : Option Value → jmM → Prop} : AW d 289 754 [l0, l1, l2, l3] [v0, v1, v2, v3, v4, v5] m Q ↔ AW d 289 755 [l0, l1, l2, l3] [.int 4, v0, v1, v2, v3, v4, v5] m Q := A_iconst hB_L_law dL_law_754 (by decide)
theorem dL_law_755 : decode cL_law 755 = .ok (.iadd, 1) := by decide +kernel
theorem tL_law_755 {d : Nat} {l0 l1 l2 l3 : Option Value} {v2 v3 v4 v5 v6 : Value} {x y : Int32} {m : jmM} {Q : Option Value → jmM → Prop} : AW d 289 755 [l0, l1, l2, l3] [.int y, .int x, v2, v3, v4, v5, v6] m Q ↔ AW d 289 756 [l0, l1, l2, l3] [.int (x + y), v2, v3, v4, v5, v6] m Q := A_iadd hB_L_law dL_law_755
theorem dL_law_756 : decode cL_law 756 = .ok (.iaload, 1) := by decide +kernel
theorem tL_law_756 {d : Nat} {l0 l1 l2 l3 : Option Value} {v2 v3 v4 v5 : Value} {i : Int32} {a : Nat} {m : jmM} {Q : Option Value → jmM → Prop} : AW d 289 756 [l0, l1, l2, l3] [.int i, .ref a, v2, v3, v4, v5] m Q ↔ (((mS m a).1 = 20 ∨ a = jScr) ∧ jIx i (mS m a).2) ∧ AW d 289 757 [l0, l1, l2, l3] [.int (mI m a (jx i)), v2, v3, v4, v5] m Q := A_iaload hB_L_law dL_law_756
theorem dL_law_757 : decode cL_law 757 = .ok (.aload_n 0, 1) := by decide +kernel
theorem tL_law_757 {d : Nat} {l1 l2 l3 : Option Value} {v0 v1 v2 v3 v4 : Value} {x : Nat} {m : jmM} {Q : Option Value → jmM → Prop} : AW d 289 757 [some (.ref x), l1, l2, l3] [v0, v1, v2, v3, v4] m Q ↔ AW d 289 758 [some (.ref x), l1, l2, l3] [.ref x, v0, v1, v2, v3, v4] m Q := A_aload_n hB_L_law dL_law_757 rfl
theorem dL_law_758 : decode cL_law 758 = .ok (.iload_n 3, 1) := by decide +kernel
theorem tL_law_758 {d : Nat} {l0 l1 l2 : Option Value} {v0 v1 v2 v3 v4 v5 : Value} {x : Int32} {m : jmM} {Q : Option Value → jmM → Prop} : AW d 289 758 [l0, l1, l2, some (.int x)] [v0, v1, v2, v3, v4, v5] m Q ↔ AW d 289 759 [l0, l1, l2, some (.int x)] [.int x, v0, v1, v2, v3, v4, v5] m Q := A_iload_n hB_L_law dL_law_758 rfl
theorem dL_law_759 : decode cL_law 759 = .ok (.iconst 5, 1) := by decide +kernel
theorem tL_law_759 {d : Nat} {l0 l1 l2 l3 : Option Value} {v0 v1 v2 v3 v4 v5 v6 : Value} {m : jmM} {Q : Option Value → jmM → Prop} : AW d 289 759 [l0, l1, l2, l3] [v0, v1, v2, v3, v4, v5, v6] m Q ↔ AW d 289 760 [l0, l1, l2, l3] [.int 5, v0, v1, v2, v3, v4, v5, v6] m Q := A_iconst hB_L_law dL_law_759 (by decide)
theorem dL_law_760 : decode cL_law 760 = .ok (.iadd, 1) := by decide +kernel
theorem tL_law_760 {d : Nat} {l0 l1 l2 l3 : Option Value} {v2 v3 v4 v5 v6 v7 : Value} {x y : Int32} {m : jmM} {Q : Option Value → jmM → Prop} : AW d 289 760 [l0, l1, l2, l3] [.int y, .int x, v2, v3, v4, v5, v6, v7] m Q ↔ AW d 289 761 [l0, l1, l2, l3] [.int (x + y), v2, v3, v4, v5, v6, v7] m Q := A_iadd hB_L_law dL_law_760
theorem dL_law_761 : decode cL_law 761 = .ok (.iaload, 1) := by decide +kernel
theorem tL_law_761 {d : Nat} {l0 l1 l2 l3 : Option Value} {v2 v3 v4 v5 v6 : Value} {i : Int32} {a : Nat} {m : jmM} {Q : Option Value → jmM → Prop} : AW d 289 761 [l0, l1, l2, l3] [.int i, .ref a, v2, v3, v4, v5, v6] m Q ↔ (((mS m a).1 = 20 ∨ a = jScr) ∧ jIx i (mS m a).2) ∧ AW d 289 762 [l0, l1, l2, l3] [.int (mI m a (jx i)), v2, v3, v4, v5, v6] m Q := A_iaload hB_L_law dL_law_761
theorem dL_law_762 : decode cL_law 762 = .ok (.aload_n 0, 1) := by decide +kernel
theorem tL_law_762 {d : Nat} {l1 l2 l3 : Option Value} {v0 v1 v2 v3 v4 v5 : Value} {x : Nat} {m : jmM} {Q : Option Value → jmM → Prop} : AW d 289 762 [some (.ref x), l1, l2, l3] [v0, v1, v2, v3, v4, v5] m Q ↔ AW d 289 763 [some (.ref x), l1, l2, l3] [.ref x, v0, v1, v2, v3, v4, v5] m Q := A_aload_n hB_L_law dL_law_762 rfl
theorem dL_law_763 : decode cL_law 763 = .ok (.iload_n 3, 1) := by decide +kernel
theorem tL_law_763 {d : Nat} {l0 l1 l2 : Option Value} {v0 v1 v2 v3 v4 v5 v6 : Value} {x : Int32} {m : jmM} {Q : Option Value → jmM → Prop} : AW d 289 763 [l0, l1, l2, some (.int x)] [v0, v1, v2, v3, v4, v5, v6] m Q ↔ AW d 289 764 [l0, l1, l2, some (.int x)] [.int x, v0, v1, v2, v3, v4, v5, v6] m Q := A_iload_n hB_L_law dL_law_763 rfl
theorem dL_law_764 : decode cL_law 764 = .ok (.bipush 6, 2) := by decide +kernel
theorem tL_law_764 {d : Nat} {l0 l1 l2 l3 : Option Value} {v0 v1 v2 v3 v4 v5 v6 v7 : Value} {m : jmM} {Q : Option Value → jmM → Prop} : AW d 289 764 [l0, l1, l2, l3] [v0, v1, v2, v3, v4, v5, v6, v7] m Q ↔ AW d 289 766 [l0, l1, l2, l3] [.int 6, v0, v1, v2, v3, v4, v5, v6, v7] m Q := A_bipush hB_L_law dL_law_764 rfl
theorem dL_law_766 : decode cL_law 766 = .ok (.iadd, 1) := by decide +kernel
theorem tL_law_766 {d : Nat} {l0 l1 l2 l3 : Option Value} {v2 v3 v4 v5 v6 v7 v8 : Value} {x y : Int32} {m : jmM} {Q : Option Value → jmM → Prop} : AW d 289 766 [l0, l1, l2, l3] [.int y, .int x, v2, v3, v4, v5, v6, v7, v8] m Q ↔ AW d 289 767 [l0, l1, l2, l3] [.int (x + y), v2, v3, v4, v5, v6, v7, v8] m Q := A_iadd hB_L_law dL_law_766
theorem dL_law_767 : decode cL_law 767 = .ok (.iaload, 1) := by decide +kernel
theorem tL_law_767 {d : Nat} {l0 l1 l2 l3 : Option Value} {v2 v3 v4 v5 v6 v7 : Value} {i : Int32} {a : Nat} {m : jmM} {Q : Option Value → jmM → Prop} : AW d 289 767 [l0, l1, l2, l3] [.int i, .ref a, v2, v3, v4, v5, v6, v7] m Q ↔ (((mS m a).1 = 20 ∨ a = jScr) ∧ jIx i (mS m a).2) ∧ AW d 289 768 [l0, l1, l2, l3] [.int (mI m a (jx i)), v2, v3, v4, v5, v6, v7] m Q := A_iaload hB_L_law dL_law_767
theorem dL_law_768 : decode cL_law 768 = .ok (.invokevirtual 93, 3) := by decide +kernel
theorem tL_law_768 {d : Nat} {l0 l1 l2 l3 : Option Value} {y0 y1 y2 y3 y4 y5 : Value} {a : Nat} {m : jmM} {Q : Option Value → jmM → Prop} : AW d 289 768 [l0, l1, l2, l3] [y0, y1, y2, y3, y4, y5, .ref a] m Q ↔ (mS m a).1 = 11 ∧ CC d 159 [.ref a, y5, y4, y3, y2, y1, y0] m (jK d 289 771 [l0, l1, l2, l3] [] Q) := A_callV hB_L_law dL_law_768 hO_L_law fS_13_93 ⟨Nat.le_of_ble_eq_true rfl, Nat.le_of_ble_eq_true rfl⟩ rfl rfl rfl
theorem dL_law_771 : decode cL_law 771 = .ok (.aload_n 2, 1) := by decide +kernel
theorem tL_law_771 {d : Nat} {l0 l1 l3 : Option Value} {v0 : Value} {x : Nat} {m : jmM} {Q : Option Value → jmM → Prop} : AW d 289 771 [l0, l1, some (.ref x), l3] [v0] m Q ↔ AW d 289 772 [l0, l1, some (.ref x), l3] [.ref x, v0] m Q := A_aload_n hB_L_law dL_law_771 rfl
theorem dL_law_772 : decode cL_law 772 = .ok (.aload_n 0, 1) := by decide +kernel
theorem tL_law_772 {d : Nat} {l1 l2 l3 : Option Value} {v0 v1 : Value} {x : Nat} {m : jmM} {Q : Option Value → jmM → Prop} : AW d 289 772 [some (.ref x), l1, l2, l3] [v0, v1] m Q ↔ AW d 289 773 [some (.ref x), l1, l2, l3] [.ref x, v0, v1] m Q := A_aload_n hB_L_law dL_law_772 rfl
theorem dL_law_773 : decode cL_law 773 = .ok (.iload_n 3, 1) := by decide +kernel
theorem tL_law_773 {d : Nat} {l0 l1 l2 : Option Value} {v0 v1 v2 : Value} {x : Int32} {m : jmM} {Q : Option Value → jmM → Prop} : AW d 289 773 [l0, l1, l2, some (.int x)] [v0, v1, v2] m Q ↔ AW d 289 774 [l0, l1, l2, some (.int x)] [.int x, v0, v1, v2] m Q := A_iload_n hB_L_law dL_law_773 rfl
theorem dL_law_774 : decode cL_law 774 = .ok (.iconst 1, 1) := by decide +kernel
theorem tL_law_774 {d : Nat} {l0 l1 l2 l3 : Option Value} {v0 v1 v2 v3 : Value} {m : jmM} {Q : Option Value → jmM → Prop} : AW d 289 774 [l0, l1, l2, l3] [v0, v1, v2, v3] m Q ↔ AW d 289 775 [l0, l1, l2, l3] [.int 1, v0, v1, v2, v3] m Q := A_iconst hB_L_law dL_law_774 (by decide)
theorem dL_law_775 : decode cL_law 775 = .ok (.iadd, 1) := by decide +kernel
theorem tL_law_775 {d : Nat} {l0 l1 l2 l3 : Option Value} {v2 v3 v4 : Value} {x y : Int32} {m : jmM} {Q : Option Value → jmM → Prop} : AW d 289 775 [l0, l1, l2, l3] [.int y, .int x, v2, v3, v4] m Q ↔ AW d 289 776 [l0, l1, l2, l3] [.int (x + y), v2, v3, v4] m Q := A_iadd hB_L_law dL_law_775
theorem dL_law_776 : decode cL_law 776 = .ok (.iaload, 1) := by decide +kernel
theorem tL_law_776 {d : Nat} {l0 l1 l2 l3 : Option Value} {v2 v3 : Value} {i : Int32} {a : Nat} {m : jmM} {Q : Option Value → jmM → Prop} : AW d 289 776 [l0, l1, l2, l3] [.int i, .ref a, v2, v3] m Q ↔ (((mS m a).1 = 20 ∨ a = jScr) ∧ jIx i (mS m a).2) ∧ AW d 289 777 [l0, l1, l2, l3] [.int (mI m a (jx i)), v2, v3] m Q := A_iaload hB_L_law dL_law_776
theorem dL_law_777 : decode cL_law 777 = .ok (.aload_n 0, 1) := by decide +kernel
theorem tL_law_777 {d : Nat} {l1 l2 l3 : Option Value} {v0 v1 v2 : Value} {x : Nat} {m : jmM} {Q : Option Value → jmM → Prop} : AW d 289 777 [some (.ref x), l1, l2, l3] [v0, v1, v2] m Q ↔ AW d 289 778 [some (.ref x), l1, l2, l3] [.ref x, v0, v1, v2] m Q := A_aload_n hB_L_law dL_law_777 rfl
theorem dL_law_778 : decode cL_law 778 = .ok (.iload_n 3, 1) := by decide +kernel
theorem tL_law_778 {d : Nat} {l0 l1 l2 : Option Value} {v0 v1 v2 v3 : Value} {x : Int32} {m : jmM} {Q : Option Value → jmM → Prop} : AW d 289 778 [l0, l1, l2, some (.int x)] [v0, v1, v2, v3] m Q ↔ AW d 289 779 [l0, l1, l2, some (.int x)] [.int x, v0, v1, v2, v3] m Q := A_iload_n hB_L_law dL_law_778 rfl
theorem dL_law_779 : decode cL_law 779 = .ok (.iconst 2, 1) := by decide +kernel
theorem tL_law_779 {d : Nat} {l0 l1 l2 l3 : Option Value} {v0 v1 v2 v3 v4 : Value} {m : jmM} {Q : Option Value → jmM → Prop} : AW d 289 779 [l0, l1, l2, l3] [v0, v1, v2, v3, v4] m Q ↔ AW d 289 780 [l0, l1, l2, l3] [.int 2, v0, v1, v2, v3, v4] m Q := A_iconst hB_L_law dL_law_779 (by decide)
theorem dL_law_780 : decode cL_law 780 = .ok (.iadd, 1) := by decide +kernel
theorem tL_law_780 {d : Nat} {l0 l1 l2 l3 : Option Value} {v2 v3 v4 v5 : Value} {x y : Int32} {m : jmM} {Q : Option Value → jmM → Prop} : AW d 289 780 [l0, l1, l2, l3] [.int y, .int x, v2, v3, v4, v5] m Q ↔ AW d 289 781 [l0, l1, l2, l3] [.int (x + y), v2, v3, v4, v5] m Q := A_iadd hB_L_law dL_law_780
theorem dL_law_781 : decode cL_law 781 = .ok (.iaload, 1) := by decide +kernel
theorem tL_law_781 {d : Nat} {l0 l1 l2 l3 : Option Value} {v2 v3 v4 : Value} {i : Int32} {a : Nat} {m : jmM} {Q : Option Value → jmM → Prop} : AW d 289 781 [l0, l1, l2, l3] [.int i, .ref a, v2, v3, v4] m Q ↔ (((mS m a).1 = 20 ∨ a = jScr) ∧ jIx i (mS m a).2) ∧ AW d 289 782 [l0, l1, l2, l3] [.int (mI m a (jx i)), v2, v3, v4] m Q := A_iaload hB_L_law dL_law_781
theorem dL_law_782 : decode cL_law 782 = .ok (.aload_n 0, 1) := by decide +kernel
theorem tL_law_782 {d : Nat} {l1 l2 l3 : Option Value} {v0 v1 v2 v3 : Value} {x : Nat} {m : jmM} {Q : Option Value → jmM → Prop} : AW d 289 782 [some (.ref x), l1, l2, l3] [v0, v1, v2, v3] m Q ↔ AW d 289 783 [some (.ref x), l1, l2, l3] [.ref x, v0, v1, v2, v3] m Q := A_aload_n hB_L_law dL_law_782 rfl
theorem dL_law_783 : decode cL_law 783 = .ok (.iload_n 3, 1) := by decide +kernel
theorem tL_law_783 {d : Nat} {l0 l1 l2 : Option Value} {v0 v1 v2 v3 v4 : Value} {x : Int32} {m : jmM} {Q : Option Value → jmM → Prop} : AW d 289 783 [l0, l1, l2, some (.int x)] [v0, v1, v2, v3, v4] m Q ↔ AW d 289 784 [l0, l1, l2, some (.int x)] [.int x, v0, v1, v2, v3, v4] m Q := A_iload_n hB_L_law dL_law_783 rfl
theorem dL_law_784 : decode cL_law 784 = .ok (.iconst 3, 1) := by decide +kernel
theorem tL_law_784 {d : Nat} {l0 l1 l2 l3 : Option Value} {v0 v1 v2 v3 v4 v5 : Value} {m : jmM} {Q : Option Value → jmM → Prop} : AW d 289 784 [l0, l1, l2, l3] [v0, v1, v2, v3, v4, v5] m Q ↔ AW d 289 785 [l0, l1, l2, l3] [.int 3, v0, v1, v2, v3, v4, v5] m Q := A_iconst hB_L_law dL_law_784 (by decide)
theorem dL_law_785 : decode cL_law 785 = .ok (.iadd, 1) := by decide +kernel
theorem tL_law_785 {d : Nat} {l0 l1 l2 l3 : Option Value} {v2 v3 v4 v5 v6 : Value} {x y : Int32} {m : jmM} {Q : Option Value → jmM → Prop} : AW d 289 785 [l0, l1, l2, l3] [.int y, .int x, v2, v3, v4, v5, v6] m Q ↔ AW d 289 786 [l0, l1, l2, l3] [.int (x + y), v2, v3, v4, v5, v6] m Q := A_iadd hB_L_law dL_law_785
theorem dL_law_786 : decode cL_law 786 = .ok (.iaload, 1) := by decide +kernel
theorem tL_law_786 {d : Nat} {l0 l1 l2 l3 : Option Value} {v2 v3 v4 v5 : Value} {i : Int32} {a : Nat} {m : jmM} {Q : Option Value → jmM → Prop} : AW d 289 786 [l0, l1, l2, l3] [.int i, .ref a, v2, v3, v4, v5] m Q ↔ (((mS m a).1 = 20 ∨ a = jScr) ∧ jIx i (mS m a).2) ∧ AW d 289 787 [l0, l1, l2, l3] [.int (mI m a (jx i)), v2, v3, v4, v5] m Q := A_iaload hB_L_law dL_law_786
theorem dL_law_787 : decode cL_law 787 = .ok (.aload_n 0, 1) := by decide +kernel
theorem tL_law_787 {d : Nat} {l1 l2 l3 : Option Value} {v0 v1 v2 v3 v4 : Value} {x : Nat} {m : jmM} {Q : Option Value → jmM → Prop} : AW d 289 787 [some (.ref x), l1, l2, l3] [v0, v1, v2, v3, v4] m Q ↔ AW d 289 788 [some (.ref x), l1, l2, l3] [.ref x, v0, v1, v2, v3, v4] m Q := A_aload_n hB_L_law dL_law_787 rfl
theorem dL_law_788 : decode cL_law 788 = .ok (.iload_n 3, 1) := by decide +kernel
theorem tL_law_788 {d : Nat} {l0 l1 l2 : Option Value} {v0 v1 v2 v3 v4 v5 : Value} {x : Int32} {m : jmM} {Q : Option Value → jmM → Prop} : AW d 289 788 [l0, l1, l2, some (.int x)] [v0, v1, v2, v3, v4, v5] m Q ↔ AW d 289 789 [l0, l1, l2, some (.int x)] [.int x, v0, v1, v2, v3, v4, v5] m Q := A_iload_n hB_L_law dL_law_788 rfl
theorem dL_law_789 : decode cL_law 789 = .ok (.iconst 4, 1) := by decide +kernel
theorem tL_law_789 {d : Nat} {l0 l1 l2 l3 : Option Value} {v0 v1 v2 v3 v4 v5 v6 : Value} {m : jmM} {Q : Option Value → jmM → Prop} : AW d 289 789 [l0, l1, l2, l3] [v0, v1, v2, v3, v4, v5, v6] m Q ↔ AW d 289 790 [l0, l1, l2, l3] [.int 4, v0, v1, v2, v3, v4, v5, v6] m Q := A_iconst hB_L_law dL_law_789 (by decide)
theorem dL_law_790 : decode cL_law 790 = .ok (.iadd, 1) := by decide +kernel
theorem tL_law_790 {d : Nat} {l0 l1 l2 l3 : Option Value} {v2 v3 v4 v5 v6 v7 : Value} {x y : Int32} {m : jmM} {Q : Option Value → jmM → Prop} : AW d 289 790 [l0, l1, l2, l3] [.int y, .int x, v2, v3, v4, v5, v6, v7] m Q ↔ AW d 289 791 [l0, l1, l2, l3] [.int (x + y), v2, v3, v4, v5, v6, v7] m Q := A_iadd hB_L_law dL_law_790
theorem dL_law_791 : decode cL_law 791 = .ok (.iaload, 1) := by decide +kernel
theorem tL_law_791 {d : Nat} {l0 l1 l2 l3 : Option Value} {v2 v3 v4 v5 v6 : Value} {i : Int32} {a : Nat} {m : jmM} {Q : Option Value → jmM → Prop} : AW d 289 791 [l0, l1, l2, l3] [.int i, .ref a, v2, v3, v4, v5, v6] m Q ↔ (((mS m a).1 = 20 ∨ a = jScr) ∧ jIx i (mS m a).2) ∧ AW d 289 792 [l0, l1, l2, l3] [.int (mI m a (jx i)), v2, v3, v4, v5, v6] m Q := A_iaload hB_L_law dL_law_791
theorem dL_law_792 : decode cL_law 792 = .ok (.aload_n 0, 1) := by decide +kernel
theorem tL_law_792 {d : Nat} {l1 l2 l3 : Option Value} {v0 v1 v2 v3 v4 v5 : Value} {x : Nat} {m : jmM} {Q : Option Value → jmM → Prop} : AW d 289 792 [some (.ref x), l1, l2, l3] [v0, v1, v2, v3, v4, v5] m Q ↔ AW d 289 793 [some (.ref x), l1, l2, l3] [.ref x, v0, v1, v2, v3, v4, v5] m Q := A_aload_n hB_L_law dL_law_792 rfl
theorem dL_law_793 : decode cL_law 793 = .ok (.iload_n 3, 1) := by decide +kernel
theorem tL_law_793 {d : Nat} {l0 l1 l2 : Option Value} {v0 v1 v2 v3 v4 v5 v6 : Value} {x : Int32} {m : jmM} {Q : Option Value → jmM → Prop} : AW d 289 793 [l0, l1, l2, some (.int x)] [v0, v1, v2, v3, v4, v5, v6] m Q ↔ AW d 289 794 [l0, l1, l2, some (.int x)] [.int x, v0, v1, v2, v3, v4, v5, v6] m Q := A_iload_n hB_L_law dL_law_793 rfl
theorem dL_law_794 : decode cL_law 794 = .ok (.iconst 5, 1) := by decide +kernel
theorem tL_law_794 {d : Nat} {l0 l1 l2 l3 : Option Value} {v0 v1 v2 v3 v4 v5 v6 v7 : Value} {m : jmM} {Q : Option Value → jmM → Prop} : AW d 289 794 [l0, l1, l2, l3] [v0, v1, v2, v3, v4, v5, v6, v7] m Q ↔ AW d 289 795 [l0, l1, l2, l3] [.int 5, v0, v1, v2, v3, v4, v5, v6, v7] m Q := A_iconst hB_L_law dL_law_794 (by decide)
theorem dL_law_795 : decode cL_law 795 = .ok (.iadd, 1) := by decide +kernel
theorem tL_law_795 {d : Nat} {l0 l1 l2 l3 : Option Value} {v2 v3 v4 v5 v6 v7 v8 : Value} {x y : Int32} {m : jmM} {Q : Option Value → jmM → Prop} : AW d 289 795 [l0, l1, l2, l3] [.int y, .int x, v2, v3, v4, v5, v6, v7, v8] m Q ↔ AW d 289 796 [l0, l1, l2, l3] [.int (x + y), v2, v3, v4, v5, v6, v7, v8] m Q := A_iadd hB_L_law dL_law_795
theorem dL_law_796 : decode cL_law 796 = .ok (.iaload, 1) := by decide +kernel
theorem tL_law_796 {d : Nat} {l0 l1 l2 l3 : Option Value} {v2 v3 v4 v5 v6 v7 : Value} {i : Int32} {a : Nat} {m : jmM} {Q : Option Value → jmM → Prop} : AW d 289 796 [l0, l1, l2, l3] [.int i, .ref a, v2, v3, v4, v5, v6, v7] m Q ↔ (((mS m a).1 = 20 ∨ a = jScr) ∧ jIx i (mS m a).2) ∧ AW d 289 797 [l0, l1, l2, l3] [.int (mI m a (jx i)), v2, v3, v4, v5, v6, v7] m Q := A_iaload hB_L_law dL_law_796
theorem dL_law_797 : decode cL_law 797 = .ok (.aload_n 0, 1) := by decide +kernel
theorem tL_law_797 {d : Nat} {l1 l2 l3 : Option Value} {v0 v1 v2 v3 v4 v5 v6 : Value} {x : Nat} {m : jmM} {Q : Option Value → jmM → Prop} : AW d 289 797 [some (.ref x), l1, l2, l3] [v0, v1, v2, v3, v4, v5, v6] m Q ↔ AW d 289 798 [some (.ref x), l1, l2, l3] [.ref x, v0, v1, v2, v3, v4, v5, v6] m Q := A_aload_n hB_L_law dL_law_797 rfl
theorem dL_law_798 : decode cL_law 798 = .ok (.iload_n 3, 1) := by decide +kernel
theorem tL_law_798 {d : Nat} {l0 l1 l2 : Option Value} {v0 v1 v2 v3 v4 v5 v6 v7 : Value} {x : Int32} {m : jmM} {Q : Option Value → jmM → Prop} : AW d 289 798 [l0, l1, l2, some (.int x)] [v0, v1, v2, v3, v4, v5, v6, v7] m Q ↔ AW d 289 799 [l0, l1, l2, some (.int x)] [.int x, v0, v1, v2, v3, v4, v5, v6, v7] m Q := A_iload_n hB_L_law dL_law_798 rfl
theorem dL_law_799 : decode cL_law 799 = .ok (.bipush 6, 2) := by decide +kernel
theorem tL_law_799 {d : Nat} {l0 l1 l2 l3 : Option Value} {v0 v1 v2 v3 v4 v5 v6 v7 v8 : Value} {m : jmM} {Q : Option Value → jmM → Prop} : AW d 289 799 [l0, l1, l2, l3] [v0, v1, v2, v3, v4, v5, v6, v7, v8] m Q ↔ AW d 289 801 [l0, l1, l2, l3] [.int 6, v0, v1, v2, v3, v4, v5, v6, v7, v8] m Q := A_bipush hB_L_law dL_law_799 rfl
theorem dL_law_801 : decode cL_law 801 = .ok (.iadd, 1) := by decide +kernel
theorem tL_law_801 {d : Nat} {l0 l1 l2 l3 : Option Value} {v2 v3 v4 v5 v6 v7 v8 v9 : Value} {x y : Int32} {m : jmM} {Q : Option Value → jmM → Prop} : AW d 289 801 [l0, l1, l2, l3] [.int y, .int x, v2, v3, v4, v5, v6, v7, v8, v9] m Q ↔ AW d 289 802 [l0, l1, l2, l3] [.int (x + y), v2, v3, v4, v5, v6, v7, v8, v9] m Q := A_iadd hB_L_law dL_law_801
theorem dL_law_802 : decode cL_law 802 = .ok (.iaload, 1) := by decide +kernel
theorem tL_law_802 {d : Nat} {l0 l1 l2 l3 : Option Value} {v2 v3 v4 v5 v6 v7 v8 : Value} {i : Int32} {a : Nat} {m : jmM} {Q : Option Value → jmM → Prop} : AW d 289 802 [l0, l1, l2, l3] [.int i, .ref a, v2, v3, v4, v5, v6, v7, v8] m Q ↔ (((mS m a).1 = 20 ∨ a = jScr) ∧ jIx i (mS m a).2) ∧ AW d 289 803 [l0, l1, l2, l3] [.int (mI m a (jx i)), v2, v3, v4, v5, v6, v7, v8] m Q := A_iaload hB_L_law dL_law_802
theorem dL_law_803 : decode cL_law 803 = .ok (.invokevirtual 97, 3) := by decide +kernel
theorem tL_law_803 {d : Nat} {l0 l1 l2 l3 : Option Value} {v7 : Value} {y0 y1 y2 y3 y4 y5 : Value} {a : Nat} {m : jmM} {Q : Option Value → jmM → Prop} : AW d 289 803 [l0, l1, l2, l3] [y0, y1, y2, y3, y4, y5, .ref a, v7] m Q ↔ (mS m a).1 = 12 ∧ CC d 259 [.ref a, y5, y4, y3, y2, y1, y0] m (jK d 289 806 [l0, l1, l2, l3] [v7] Q) := A_callV hB_L_law dL_law_803 hO_L_law fS_13_97 ⟨Nat.le_of_ble_eq_true rfl, Nat.le_of_ble_eq_true rfl⟩ rfl rfl rfl
theorem dL_law_806 : decode cL_law 806 = .ok (.if_icmp .eq 616, 3) := by decide +kernel
theorem tL_law_806 {d : Nat} {l0 l1 l2 l3 : Option Value} {x y : Int32} {m : jmM} {Q : Option Value → jmM → Prop} : AW d 289 806 [l0, l1, l2, l3] [.int y, .int x] m Q ↔ if x = y then AW d 289 1422 [l0, l1, l2, l3] [] m Q else AW d 289 809 [l0, l1, l2, l3] [] m Q := A_icmp_eq hB_L_law dL_law_806 (by decide)
theorem dL_law_809 : decode cL_law 809 = .ok (.iconst 0, 1) := by decide +kernel
theorem tL_law_809 {d : Nat} {l0 l1 l2 l3 : Option Value} {m : jmM} {Q : Option Value → jmM → Prop} : AW d 289 809 [l0, l1, l2, l3] [] m Q ↔ AW d 289 810 [l0, l1, l2, l3] [.int 0] m Q := A_iconst hB_L_law dL_law_809 (by decide)
theorem dL_law_810 : decode cL_law 810 = .ok (.ireturn, 1) := by decide +kernel
theorem tL_law_810 {d : Nat} {l0 l1 l2 l3 : Option Value} {x : Int32} {m : jmM} {Q : Option Value → jmM → Prop} : AW d 289 810 [l0, l1, l2, l3] [.int x] m Q ↔ jBool x ∧ Q (some (.int x)) m := A_zreturn hB_L_law dL_law_810 hR_L_law
theorem dL_law_811 : decode cL_law 811 = .ok (.aload_n 1, 1) := by decide +kernel
theorem tL_law_811 {d : Nat} {l0 l2 l3 : Option Value} {x : Nat} {m : jmM} {Q : Option Value → jmM → Prop} : AW d 289 811 [l0, some (.ref x), l2, l3] [] m Q ↔ AW d 289 812 [l0, some (.ref x), l2, l3] [.ref x] m Q := A_aload_n hB_L_law dL_law_811 rfl
theorem dL_law_812 : decode cL_law 812 = .ok (.invokevirtual 98, 3) := by decide +kernel
theorem tL_law_812 {d : Nat} {l0 l1 l2 l3 : Option Value} {a : Nat} {m : jmM} {Q : Option Value → jmM → Prop} : AW d 289 812 [l0, l1, l2, l3] [.ref a] m Q ↔ (mS m a).1 = 11 ∧ CC d 160 [.ref a] m (jK d 289 815 [l0, l1, l2, l3] [] Q) := A_callV hB_L_law dL_law_812 hO_L_law fS_13_98 ⟨Nat.le_of_ble_eq_true rfl, Nat.le_of_ble_eq_true rfl⟩ rfl rfl rfl
theorem dL_law_815 : decode cL_law 815 = .ok (.aload_n 2, 1) := by decide +kernel
theorem tL_law_815 {d : Nat} {l0 l1 l3 : Option Value} {v0 : Value} {x : Nat} {m : jmM} {Q : Option Value → jmM → Prop} : AW d 289 815 [l0, l1, some (.ref x), l3] [v0] m Q ↔ AW d 289 816 [l0, l1, some (.ref x), l3] [.ref x, v0] m Q := A_aload_n hB_L_law dL_law_815 rfl
theorem dL_law_816 : decode cL_law 816 = .ok (.invokevirtual 101, 3) := by decide +kernel
theorem tL_law_816 {d : Nat} {l0 l1 l2 l3 : Option Value} {v1 : Value} {a : Nat} {m : jmM} {Q : Option Value → jmM → Prop} : AW d 289 816 [l0, l1, l2, l3] [.ref a, v1] m Q ↔ (mS m a).1 = 12 ∧ CC d 262 [.ref a] m (jK d 289 819 [l0, l1, l2, l3] [v1] Q) := A_callV hB_L_law dL_law_816 hO_L_law fS_13_101 ⟨Nat.le_of_ble_eq_true rfl, Nat.le_of_ble_eq_true rfl⟩ rfl rfl rfl
theorem dL_law_819 : decode cL_law 819 = .ok (.if_icmp .eq 603, 3) := by decide +kernel
theorem tL_law_819 {d : Nat} {l0 l1 l2 l3 : Option Value} {x y : Int32} {m : jmM} {Q : Option Value → jmM → Prop} : AW d 289 819 [l0, l1, l2, l3] [.int y, .int x] m Q ↔ if x = y then AW d 289 1422 [l0, l1, l2, l3] [] m Q else AW d 289 822 [l0, l1, l2, l3] [] m Q := A_icmp_eq hB_L_law dL_law_819 (by decide)
theorem dL_law_822 : decode cL_law 822 = .ok (.iconst 0, 1) := by decide +kernel
theorem tL_law_822 {d : Nat} {l0 l1 l2 l3 : Option Value} {m : jmM} {Q : Option Value → jmM → Prop} : AW d 289 822 [l0, l1, l2, l3] [] m Q ↔ AW d 289 823 [l0, l1, l2, l3] [.int 0] m Q := A_iconst hB_L_law dL_law_822 (by decide)
theorem dL_law_823 : decode cL_law 823 = .ok (.ireturn, 1) := by decide +kernel
theorem tL_law_823 {d : Nat} {l0 l1 l2 l3 : Option Value} {x : Int32} {m : jmM} {Q : Option Value → jmM → Prop} : AW d 289 823 [l0, l1, l2, l3] [.int x] m Q ↔ jBool x ∧ Q (some (.int x)) m := A_zreturn hB_L_law dL_law_823 hR_L_law
theorem dL_law_824 : decode cL_law 824 = .ok (.aload_n 1, 1) := by decide +kernel
theorem tL_law_824 {d : Nat} {l0 l2 l3 : Option Value} {x : Nat} {m : jmM} {Q : Option Value → jmM → Prop} : AW d 289 824 [l0, some (.ref x), l2, l3] [] m Q ↔ AW d 289 825 [l0, some (.ref x), l2, l3] [.ref x] m Q := A_aload_n hB_L_law dL_law_824 rfl
theorem dL_law_825 : decode cL_law 825 = .ok (.aload_n 0, 1) := by decide +kernel
theorem tL_law_825 {d : Nat} {l1 l2 l3 : Option Value} {v0 : Value} {x : Nat} {m : jmM} {Q : Option Value → jmM → Prop} : AW d 289 825 [some (.ref x), l1, l2, l3] [v0] m Q ↔ AW d 289 826 [some (.ref x), l1, l2, l3] [.ref x, v0] m Q := A_aload_n hB_L_law dL_law_825 rfl
theorem dL_law_826 : decode cL_law 826 = .ok (.iload_n 3, 1) := by decide +kernel
theorem tL_law_826 {d : Nat} {l0 l1 l2 : Option Value} {v0 v1 : Value} {x : Int32} {m : jmM} {Q : Option Value → jmM → Prop} : AW d 289 826 [l0, l1, l2, some (.int x)] [v0, v1] m Q ↔ AW d 289 827 [l0, l1, l2, some (.int x)] [.int x, v0, v1] m Q := A_iload_n hB_L_law dL_law_826 rfl
theorem dL_law_827 : decode cL_law 827 = .ok (.iconst 1, 1) := by decide +kernel
theorem tL_law_827 {d : Nat} {l0 l1 l2 l3 : Option Value} {v0 v1 v2 : Value} {m : jmM} {Q : Option Value → jmM → Prop} : AW d 289 827 [l0, l1, l2, l3] [v0, v1, v2] m Q ↔ AW d 289 828 [l0, l1, l2, l3] [.int 1, v0, v1, v2] m Q := A_iconst hB_L_law dL_law_827 (by decide)
theorem dL_law_828 : decode cL_law 828 = .ok (.iadd, 1) := by decide +kernel
theorem tL_law_828 {d : Nat} {l0 l1 l2 l3 : Option Value} {v2 v3 : Value} {x y : Int32} {m : jmM} {Q : Option Value → jmM → Prop} : AW d 289 828 [l0, l1, l2, l3] [.int y, .int x, v2, v3] m Q ↔ AW d 289 829 [l0, l1, l2, l3] [.int (x + y), v2, v3] m Q := A_iadd hB_L_law dL_law_828
theorem dL_law_829 : decode cL_law 829 = .ok (.iaload, 1) := by decide +kernel
theorem tL_law_829 {d : Nat} {l0 l1 l2 l3 : Option Value} {v2 : Value} {i : Int32} {a : Nat} {m : jmM} {Q : Option Value → jmM → Prop} : AW d 289 829 [l0, l1, l2, l3] [.int i, .ref a, v2] m Q ↔ (((mS m a).1 = 20 ∨ a = jScr) ∧ jIx i (mS m a).2) ∧ AW d 289 830 [l0, l1, l2, l3] [.int (mI m a (jx i)), v2] m Q := A_iaload hB_L_law dL_law_829
theorem dL_law_830 : decode cL_law 830 = .ok (.invokevirtual 102, 3) := by decide +kernel
theorem tL_law_830 {d : Nat} {l0 l1 l2 l3 : Option Value} {y0 : Value} {a : Nat} {m : jmM} {Q : Option Value → jmM → Prop} : AW d 289 830 [l0, l1, l2, l3] [y0, .ref a] m Q ↔ (mS m a).1 = 11 ∧ CC d 161 [.ref a, y0] m (jK d 289 833 [l0, l1, l2, l3] [] Q) := A_callV hB_L_law dL_law_830 hO_L_law fS_13_102 ⟨Nat.le_of_ble_eq_true rfl, Nat.le_of_ble_eq_true rfl⟩ rfl rfl rfl
theorem dL_law_833 : decode cL_law 833 = .ok (.aload_n 2, 1) := by decide +kernel
theorem tL_law_833 {d : Nat} {l0 l1 l3 : Option Value} {v0 : Value} {x : Nat} {m : jmM} {Q : Option Value → jmM → Prop} : AW d 289 833 [l0, l1, some (.ref x), l3] [v0] m Q ↔ AW d 289 834 [l0, l1, some (.ref x), l3] [.ref x, v0] m Q := A_aload_n hB_L_law dL_law_833 rfl
theorem dL_law_834 : decode cL_law 834 = .ok (.aload_n 0, 1) := by decide +kernel
theorem tL_law_834 {d : Nat} {l1 l2 l3 : Option Value} {v0 v1 : Value} {x : Nat} {m : jmM} {Q : Option Value → jmM → Prop} : AW d 289 834 [some (.ref x), l1, l2, l3] [v0, v1] m Q ↔ AW d 289 835 [some (.ref x), l1, l2, l3] [.ref x, v0, v1] m Q := A_aload_n hB_L_law dL_law_834 rfl
theorem dL_law_835 : decode cL_law 835 = .ok (.iload_n 3, 1) := by decide +kernel
theorem tL_law_835 {d : Nat} {l0 l1 l2 : Option Value} {v0 v1 v2 : Value} {x : Int32} {m : jmM} {Q : Option Value → jmM → Prop} : AW d 289 835 [l0, l1, l2, some (.int x)] [v0, v1, v2] m Q ↔ AW d 289 836 [l0, l1, l2, some (.int x)] [.int x, v0, v1, v2] m Q := A_iload_n hB_L_law dL_law_835 rfl
theorem dL_law_836 : decode cL_law 836 = .ok (.iconst 1, 1) := by decide +kernel
theorem tL_law_836 {d : Nat} {l0 l1 l2 l3 : Option Value} {v0 v1 v2 v3 : Value} {m : jmM} {Q : Option Value → jmM → Prop} : AW d 289 836 [l0, l1, l2, l3] [v0, v1, v2, v3] m Q ↔ AW d 289 837 [l0, l1, l2, l3] [.int 1, v0, v1, v2, v3] m Q := A_iconst hB_L_law dL_law_836 (by decide)
theorem dL_law_837 : decode cL_law 837 = .ok (.iadd, 1) := by decide +kernel
theorem tL_law_837 {d : Nat} {l0 l1 l2 l3 : Option Value} {v2 v3 v4 : Value} {x y : Int32} {m : jmM} {Q : Option Value → jmM → Prop} : AW d 289 837 [l0, l1, l2, l3] [.int y, .int x, v2, v3, v4] m Q ↔ AW d 289 838 [l0, l1, l2, l3] [.int (x + y), v2, v3, v4] m Q := A_iadd hB_L_law dL_law_837
theorem dL_law_838 : decode cL_law 838 = .ok (.iaload, 1) := by decide +kernel
theorem tL_law_838 {d : Nat} {l0 l1 l2 l3 : Option Value} {v2 v3 : Value} {i : Int32} {a : Nat} {m : jmM} {Q : Option Value → jmM → Prop} : AW d 289 838 [l0, l1, l2, l3] [.int i, .ref a, v2, v3] m Q ↔ (((mS m a).1 = 20 ∨ a = jScr) ∧ jIx i (mS m a).2) ∧ AW d 289 839 [l0, l1, l2, l3] [.int (mI m a (jx i)), v2, v3] m Q := A_iaload hB_L_law dL_law_838
theorem dL_law_839 : decode cL_law 839 = .ok (.invokevirtual 105, 3) := by decide +kernel
theorem tL_law_839 {d : Nat} {l0 l1 l2 l3 : Option Value} {v2 : Value} {y0 : Value} {a : Nat} {m : jmM} {Q : Option Value → jmM → Prop} : AW d 289 839 [l0, l1, l2, l3] [y0, .ref a, v2] m Q ↔ (mS m a).1 = 12 ∧ CC d 263 [.ref a, y0] m (jK d 289 842 [l0, l1, l2, l3] [v2] Q) := A_callV hB_L_law dL_law_839 hO_L_law fS_13_105 ⟨Nat.le_of_ble_eq_true rfl, Nat.le_of_ble_eq_true rfl⟩ rfl rfl rfl
theorem dL_law_842 : decode cL_law 842 = .ok (.if_icmp .eq 580, 3) := by decide +kernel
theorem tL_law_842 {d : Nat} {l0 l1 l2 l3 : Option Value} {x y : Int32} {m : jmM} {Q : Option Value → jmM → Prop} : AW d 289 842 [l0, l1, l2, l3] [.int y, .int x] m Q ↔ if x = y then AW d 289 1422 [l0, l1, l2, l3] [] m Q else AW d 289 845 [l0, l1, l2, l3] [] m Q := A_icmp_eq hB_L_law dL_law_842 (by decide)
theorem dL_law_845 : decode cL_law 845 = .ok (.iconst 0, 1) := by decide +kernel
theorem tL_law_845 {d : Nat} {l0 l1 l2 l3 : Option Value} {m : jmM} {Q : Option Value → jmM → Prop} : AW d 289 845 [l0, l1, l2, l3] [] m Q ↔ AW d 289 846 [l0, l1, l2, l3] [.int 0] m Q := A_iconst hB_L_law dL_law_845 (by decide)
theorem dL_law_846 : decode cL_law 846 = .ok (.ireturn, 1) := by decide +kernel
theorem tL_law_846 {d : Nat} {l0 l1 l2 l3 : Option Value} {x : Int32} {m : jmM} {Q : Option Value → jmM → Prop} : AW d 289 846 [l0, l1, l2, l3] [.int x] m Q ↔ jBool x ∧ Q (some (.int x)) m := A_zreturn hB_L_law dL_law_846 hR_L_law
theorem dL_law_847 : decode cL_law 847 = .ok (.aload_n 1, 1) := by decide +kernel
theorem tL_law_847 {d : Nat} {l0 l2 l3 : Option Value} {x : Nat} {m : jmM} {Q : Option Value → jmM → Prop} : AW d 289 847 [l0, some (.ref x), l2, l3] [] m Q ↔ AW d 289 848 [l0, some (.ref x), l2, l3] [.ref x] m Q := A_aload_n hB_L_law dL_law_847 rfl
theorem dL_law_848 : decode cL_law 848 = .ok (.aload_n 0, 1) := by decide +kernel
theorem tL_law_848 {d : Nat} {l1 l2 l3 : Option Value} {v0 : Value} {x : Nat} {m : jmM} {Q : Option Value → jmM → Prop} : AW d 289 848 [some (.ref x), l1, l2, l3] [v0] m Q ↔ AW d 289 849 [some (.ref x), l1, l2, l3] [.ref x, v0] m Q := A_aload_n hB_L_law dL_law_848 rfl
theorem dL_law_849 : decode cL_law 849 = .ok (.iload_n 3, 1) := by decide +kernel
theorem tL_law_849 {d : Nat} {l0 l1 l2 : Option Value} {v0 v1 : Value} {x : Int32} {m : jmM} {Q : Option Value → jmM → Prop} : AW d 289 849 [l0, l1, l2, some (.int x)] [v0, v1] m Q ↔ AW d 289 850 [l0, l1, l2, some (.int x)] [.int x, v0, v1] m Q := A_iload_n hB_L_law dL_law_849 rfl
theorem dL_law_850 : decode cL_law 850 = .ok (.iconst 1, 1) := by decide +kernel
theorem tL_law_850 {d : Nat} {l0 l1 l2 l3 : Option Value} {v0 v1 v2 : Value} {m : jmM} {Q : Option Value → jmM → Prop} : AW d 289 850 [l0, l1, l2, l3] [v0, v1, v2] m Q ↔ AW d 289 851 [l0, l1, l2, l3] [.int 1, v0, v1, v2] m Q := A_iconst hB_L_law dL_law_850 (by decide)
theorem dL_law_851 : decode cL_law 851 = .ok (.iadd, 1) := by decide +kernel
theorem tL_law_851 {d : Nat} {l0 l1 l2 l3 : Option Value} {v2 v3 : Value} {x y : Int32} {m : jmM} {Q : Option Value → jmM → Prop} : AW d 289 851 [l0, l1, l2, l3] [.int y, .int x, v2, v3] m Q ↔ AW d 289 852 [l0, l1, l2, l3] [.int (x + y), v2, v3] m Q := A_iadd hB_L_law dL_law_851
theorem dL_law_852 : decode cL_law 852 = .ok (.iaload, 1) := by decide +kernel
theorem tL_law_852 {d : Nat} {l0 l1 l2 l3 : Option Value} {v2 : Value} {i : Int32} {a : Nat} {m : jmM} {Q : Option Value → jmM → Prop} : AW d 289 852 [l0, l1, l2, l3] [.int i, .ref a, v2] m Q ↔ (((mS m a).1 = 20 ∨ a = jScr) ∧ jIx i (mS m a).2) ∧ AW d 289 853 [l0, l1, l2, l3] [.int (mI m a (jx i)), v2] m Q := A_iaload hB_L_law dL_law_852
theorem dL_law_853 : decode cL_law 853 = .ok (.aload_n 0, 1) := by decide +kernel
theorem tL_law_853 {d : Nat} {l1 l2 l3 : Option Value} {v0 v1 : Value} {x : Nat} {m : jmM} {Q : Option Value → jmM → Prop} : AW d 289 853 [some (.ref x), l1, l2, l3] [v0, v1] m Q ↔ AW d 289 854 [some (.ref x), l1, l2, l3] [.ref x, v0, v1] m Q := A_aload_n hB_L_law dL_law_853 rfl
theorem dL_law_854 : decode cL_law 854 = .ok (.iload_n 3, 1) := by decide +kernel
theorem tL_law_854 {d : Nat} {l0 l1 l2 : Option Value} {v0 v1 v2 : Value} {x : Int32} {m : jmM} {Q : Option Value → jmM → Prop} : AW d 289 854 [l0, l1, l2, some (.int x)] [v0, v1, v2] m Q ↔ AW d 289 855 [l0, l1, l2, some (.int x)] [.int x, v0, v1, v2] m Q := A_iload_n hB_L_law dL_law_854 rfl
theorem dL_law_855 : decode cL_law 855 = .ok (.iconst 2, 1) := by decide +kernel
theorem tL_law_855 {d : Nat} {l0 l1 l2 l3 : Option Value} {v0 v1 v2 v3 : Value} {m : jmM} {Q : Option Value → jmM → Prop} : AW d 289 855 [l0, l1, l2, l3] [v0, v1, v2, v3] m Q ↔ AW d 289 856 [l0, l1, l2, l3] [.int 2, v0, v1, v2, v3] m Q := A_iconst hB_L_law dL_law_855 (by decide)
theorem dL_law_856 : decode cL_law 856 = .ok (.iadd, 1) := by decide +kernel
theorem tL_law_856 {d : Nat} {l0 l1 l2 l3 : Option Value} {v2 v3 v4 : Value} {x y : Int32} {m : jmM} {Q : Option Value → jmM → Prop} : AW d 289 856 [l0, l1, l2, l3] [.int y, .int x, v2, v3, v4] m Q ↔ AW d 289 857 [l0, l1, l2, l3] [.int (x + y), v2, v3, v4] m Q := A_iadd hB_L_law dL_law_856
theorem dL_law_857 : decode cL_law 857 = .ok (.iaload, 1) := by decide +kernel
theorem tL_law_857 {d : Nat} {l0 l1 l2 l3 : Option Value} {v2 v3 : Value} {i : Int32} {a : Nat} {m : jmM} {Q : Option Value → jmM → Prop} : AW d 289 857 [l0, l1, l2, l3] [.int i, .ref a, v2, v3] m Q ↔ (((mS m a).1 = 20 ∨ a = jScr) ∧ jIx i (mS m a).2) ∧ AW d 289 858 [l0, l1, l2, l3] [.int (mI m a (jx i)), v2, v3] m Q := A_iaload hB_L_law dL_law_857
theorem dL_law_858 : decode cL_law 858 = .ok (.aload_n 0, 1) := by decide +kernel
theorem tL_law_858 {d : Nat} {l1 l2 l3 : Option Value} {v0 v1 v2 : Value} {x : Nat} {m : jmM} {Q : Option Value → jmM → Prop} : AW d 289 858 [some (.ref x), l1, l2, l3] [v0, v1, v2] m Q ↔ AW d 289 859 [some (.ref x), l1, l2, l3] [.ref x, v0, v1, v2] m Q := A_aload_n hB_L_law dL_law_858 rfl
theorem dL_law_859 : decode cL_law 859 = .ok (.iload_n 3, 1) := by decide +kernel
theorem tL_law_859 {d : Nat} {l0 l1 l2 : Option Value} {v0 v1 v2 v3 : Value} {x : Int32} {m : jmM} {Q : Option Value → jmM → Prop} : AW d 289 859 [l0, l1, l2, some (.int x)] [v0, v1, v2, v3] m Q ↔ AW d 289 860 [l0, l1, l2, some (.int x)] [.int x, v0, v1, v2, v3] m Q := A_iload_n hB_L_law dL_law_859 rfl
theorem dL_law_860 : decode cL_law 860 = .ok (.iconst 3, 1) := by decide +kernel
theorem tL_law_860 {d : Nat} {l0 l1 l2 l3 : Option Value} {v0 v1 v2 v3 v4 : Value} {m : jmM} {Q : Option Value → jmM → Prop} : AW d 289 860 [l0, l1, l2, l3] [v0, v1, v2, v3, v4] m Q ↔ AW d 289 861 [l0, l1, l2, l3] [.int 3, v0, v1, v2, v3, v4] m Q := A_iconst hB_L_law dL_law_860 (by decide)
theorem dL_law_861 : decode cL_law 861 = .ok (.iadd, 1) := by decide +kernel
theorem tL_law_861 {d : Nat} {l0 l1 l2 l3 : Option Value} {v2 v3 v4 v5 : Value} {x y : Int32} {m : jmM} {Q : Option Value → jmM → Prop} : AW d 289 861 [l0, l1, l2, l3] [.int y, .int x, v2, v3, v4, v5] m Q ↔ AW d 289 862 [l0, l1, l2, l3] [.int (x + y), v2, v3, v4, v5] m Q := A_iadd hB_L_law dL_law_861
theorem dL_law_862 : decode cL_law 862 = .ok (.iaload, 1) := by decide +kernel
theorem tL_law_862 {d : Nat} {l0 l1 l2 l3 : Option Value} {v2 v3 v4 : Value} {i : Int32} {a : Nat} {m : jmM} {Q : Option Value → jmM → Prop} : AW d 289 862 [l0, l1, l2, l3] [.int i, .ref a, v2, v3, v4] m Q ↔ (((mS m a).1 = 20 ∨ a = jScr) ∧ jIx i (mS m a).2) ∧ AW d 289 863 [l0, l1, l2, l3] [.int (mI m a (jx i)), v2, v3, v4] m Q := A_iaload hB_L_law dL_law_862
theorem dL_law_863 : decode cL_law 863 = .ok (.aload_n 0, 1) := by decide +kernel
theorem tL_law_863 {d : Nat} {l1 l2 l3 : Option Value} {v0 v1 v2 v3 : Value} {x : Nat} {m : jmM} {Q : Option Value → jmM → Prop} : AW d 289 863 [some (.ref x), l1, l2, l3] [v0, v1, v2, v3] m Q ↔ AW d 289 864 [some (.ref x), l1, l2, l3] [.ref x, v0, v1, v2, v3] m Q := A_aload_n hB_L_law dL_law_863 rfl
theorem dL_law_864 : decode cL_law 864 = .ok (.iload_n 3, 1) := by decide +kernel
theorem tL_law_864 {d : Nat} {l0 l1 l2 : Option Value} {v0 v1 v2 v3 v4 : Value} {x : Int32} {m : jmM} {Q : Option Value → jmM → Prop} : AW d 289 864 [l0, l1, l2, some (.int x)] [v0, v1, v2, v3, v4] m Q ↔ AW d 289 865 [l0, l1, l2, some (.int x)] [.int x, v0, v1, v2, v3, v4] m Q := A_iload_n hB_L_law dL_law_864 rfl
theorem dL_law_865 : decode cL_law 865 = .ok (.iconst 4, 1) := by decide +kernel
theorem tL_law_865 {d : Nat} {l0 l1 l2 l3 : Option Value} {v0 v1 v2 v3 v4 v5 : Value} {m : jmM} {Q : Option Value → jmM → Prop} : AW d 289 865 [l0, l1, l2, l3] [v0, v1, v2, v3, v4, v5] m Q ↔ AW d 289 866 [l0, l1, l2, l3] [.int 4, v0, v1, v2, v3, v4, v5] m Q := A_iconst hB_L_law dL_law_865 (by decide)
theorem dL_law_866 : decode cL_law 866 = .ok (.iadd, 1) := by decide +kernel
theorem tL_law_866 {d : Nat} {l0 l1 l2 l3 : Option Value} {v2 v3 v4 v5 v6 : Value} {x y : Int32} {m : jmM} {Q : Option Value → jmM → Prop} : AW d 289 866 [l0, l1, l2, l3] [.int y, .int x, v2, v3, v4, v5, v6] m Q ↔ AW d 289 867 [l0, l1, l2, l3] [.int (x + y), v2, v3, v4, v5, v6] m Q := A_iadd hB_L_law dL_law_866
theorem dL_law_867 : decode cL_law 867 = .ok (.iaload, 1) := by decide +kernel
theorem tL_law_867 {d : Nat} {l0 l1 l2 l3 : Option Value} {v2 v3 v4 v5 : Value} {i : Int32} {a : Nat} {m : jmM} {Q : Option Value → jmM → Prop} : AW d 289 867 [l0, l1, l2, l3] [.int i, .ref a, v2, v3, v4, v5] m Q ↔ (((mS m a).1 = 20 ∨ a = jScr) ∧ jIx i (mS m a).2) ∧ AW d 289 868 [l0, l1, l2, l3] [.int (mI m a (jx i)), v2, v3, v4, v5] m Q := A_iaload hB_L_law dL_law_867
theorem dL_law_868 : decode cL_law 868 = .ok (.aload_n 0, 1) := by decide +kernel
theorem tL_law_868 {d : Nat} {l1 l2 l3 : Option Value} {v0 v1 v2 v3 v4 : Value} {x : Nat} {m : jmM} {Q : Option Value → jmM → Prop} : AW d 289 868 [some (.ref x), l1, l2, l3] [v0, v1, v2, v3, v4] m Q ↔ AW d 289 869 [some (.ref x), l1, l2, l3] [.ref x, v0, v1, v2, v3, v4] m Q := A_aload_n hB_L_law dL_law_868 rfl
theorem dL_law_869 : decode cL_law 869 = .ok (.iload_n 3, 1) := by decide +kernel
theorem tL_law_869 {d : Nat} {l0 l1 l2 : Option Value} {v0 v1 v2 v3 v4 v5 : Value} {x : Int32} {m : jmM} {Q : Option Value → jmM → Prop} : AW d 289 869 [l0, l1, l2, some (.int x)] [v0, v1, v2, v3, v4, v5] m Q ↔ AW d 289 870 [l0, l1, l2, some (.int x)] [.int x, v0, v1, v2, v3, v4, v5] m Q := A_iload_n hB_L_law dL_law_869 rfl
theorem dL_law_870 : decode cL_law 870 = .ok (.iconst 5, 1) := by decide +kernel
theorem tL_law_870 {d : Nat} {l0 l1 l2 l3 : Option Value} {v0 v1 v2 v3 v4 v5 v6 : Value} {m : jmM} {Q : Option Value → jmM → Prop} : AW d 289 870 [l0, l1, l2, l3] [v0, v1, v2, v3, v4, v5, v6] m Q ↔ AW d 289 871 [l0, l1, l2, l3] [.int 5, v0, v1, v2, v3, v4, v5, v6] m Q := A_iconst hB_L_law dL_law_870 (by decide)
theorem dL_law_871 : decode cL_law 871 = .ok (.iadd, 1) := by decide +kernel
theorem tL_law_871 {d : Nat} {l0 l1 l2 l3 : Option Value} {v2 v3 v4 v5 v6 v7 : Value} {x y : Int32} {m : jmM} {Q : Option Value → jmM → Prop} : AW d 289 871 [l0, l1, l2, l3] [.int y, .int x, v2, v3, v4, v5, v6, v7] m Q ↔ AW d 289 872 [l0, l1, l2, l3] [.int (x + y), v2, v3, v4, v5, v6, v7] m Q := A_iadd hB_L_law dL_law_871
theorem dL_law_872 : decode cL_law 872 = .ok (.iaload, 1) := by decide +kernel
theorem tL_law_872 {d : Nat} {l0 l1 l2 l3 : Option Value} {v2 v3 v4 v5 v6 : Value} {i : Int32} {a : Nat} {m : jmM} {Q : Option Value → jmM → Prop} : AW d 289 872 [l0, l1, l2, l3] [.int i, .ref a, v2, v3, v4, v5, v6] m Q ↔ (((mS m a).1 = 20 ∨ a = jScr) ∧ jIx i (mS m a).2) ∧ AW d 289 873 [l0, l1, l2, l3] [.int (mI m a (jx i)), v2, v3, v4, v5, v6] m Q := A_iaload hB_L_law dL_law_872
theorem dL_law_873 : decode cL_law 873 = .ok (.invokevirtual 106, 3) := by decide +kernel
theorem tL_law_873 {d : Nat} {l0 l1 l2 l3 : Option Value} {y0 y1 y2 y3 y4 : Value} {a : Nat} {m : jmM} {Q : Option Value → jmM → Prop} : AW d 289 873 [l0, l1, l2, l3] [y0, y1, y2, y3, y4, .ref a] m Q ↔ (mS m a).1 = 11 ∧ CC d 162 [.ref a, y4, y3, y2, y1, y0] m (jK d 289 876 [l0, l1, l2, l3] [] Q) := A_callV hB_L_law dL_law_873 hO_L_law fS_13_106 ⟨Nat.le_of_ble_eq_true rfl, Nat.le_of_ble_eq_true rfl⟩ rfl rfl rfl
theorem dL_law_876 : decode cL_law 876 = .ok (.aload_n 2, 1) := by decide +kernel
theorem tL_law_876 {d : Nat} {l0 l1 l3 : Option Value} {v0 : Value} {x : Nat} {m : jmM} {Q : Option Value → jmM → Prop} : AW d 289 876 [l0, l1, some (.ref x), l3] [v0] m Q ↔ AW d 289 877 [l0, l1, some (.ref x), l3] [.ref x, v0] m Q := A_aload_n hB_L_law dL_law_876 rfl
theorem dL_law_877 : decode cL_law 877 = .ok (.aload_n 0, 1) := by decide +kernel
theorem tL_law_877 {d : Nat} {l1 l2 l3 : Option Value} {v0 v1 : Value} {x : Nat} {m : jmM} {Q : Option Value → jmM → Prop} : AW d 289 877 [some (.ref x), l1, l2, l3] [v0, v1] m Q ↔ AW d 289 878 [some (.ref x), l1, l2, l3] [.ref x, v0, v1] m Q := A_aload_n hB_L_law dL_law_877 rfl
theorem dL_law_878 : decode cL_law 878 = .ok (.iload_n 3, 1) := by decide +kernel
theorem tL_law_878 {d : Nat} {l0 l1 l2 : Option Value} {v0 v1 v2 : Value} {x : Int32} {m : jmM} {Q : Option Value → jmM → Prop} : AW d 289 878 [l0, l1, l2, some (.int x)] [v0, v1, v2] m Q ↔ AW d 289 879 [l0, l1, l2, some (.int x)] [.int x, v0, v1, v2] m Q := A_iload_n hB_L_law dL_law_878 rfl
theorem dL_law_879 : decode cL_law 879 = .ok (.iconst 1, 1) := by decide +kernel
theorem tL_law_879 {d : Nat} {l0 l1 l2 l3 : Option Value} {v0 v1 v2 v3 : Value} {m : jmM} {Q : Option Value → jmM → Prop} : AW d 289 879 [l0, l1, l2, l3] [v0, v1, v2, v3] m Q ↔ AW d 289 880 [l0, l1, l2, l3] [.int 1, v0, v1, v2, v3] m Q := A_iconst hB_L_law dL_law_879 (by decide)
theorem dL_law_880 : decode cL_law 880 = .ok (.iadd, 1) := by decide +kernel
theorem tL_law_880 {d : Nat} {l0 l1 l2 l3 : Option Value} {v2 v3 v4 : Value} {x y : Int32} {m : jmM} {Q : Option Value → jmM → Prop} : AW d 289 880 [l0, l1, l2, l3] [.int y, .int x, v2, v3, v4] m Q ↔ AW d 289 881 [l0, l1, l2, l3] [.int (x + y), v2, v3, v4] m Q := A_iadd hB_L_law dL_law_880
theorem dL_law_881 : decode cL_law 881 = .ok (.iaload, 1) := by decide +kernel
theorem tL_law_881 {d : Nat} {l0 l1 l2 l3 : Option Value} {v2 v3 : Value} {i : Int32} {a : Nat} {m : jmM} {Q : Option Value → jmM → Prop} : AW d 289 881 [l0, l1, l2, l3] [.int i, .ref a, v2, v3] m Q ↔ (((mS m a).1 = 20 ∨ a = jScr) ∧ jIx i (mS m a).2) ∧ AW d 289 882 [l0, l1, l2, l3] [.int (mI m a (jx i)), v2, v3] m Q := A_iaload hB_L_law dL_law_881
theorem dL_law_882 : decode cL_law 882 = .ok (.aload_n 0, 1) := by decide +kernel
theorem tL_law_882 {d : Nat} {l1 l2 l3 : Option Value} {v0 v1 v2 : Value} {x : Nat} {m : jmM} {Q : Option Value → jmM → Prop} : AW d 289 882 [some (.ref x), l1, l2, l3] [v0, v1, v2] m Q ↔ AW d 289 883 [some (.ref x), l1, l2, l3] [.ref x, v0, v1, v2] m Q := A_aload_n hB_L_law dL_law_882 rfl
theorem dL_law_883 : decode cL_law 883 = .ok (.iload_n 3, 1) := by decide +kernel
theorem tL_law_883 {d : Nat} {l0 l1 l2 : Option Value} {v0 v1 v2 v3 : Value} {x : Int32} {m : jmM} {Q : Option Value → jmM → Prop} : AW d 289 883 [l0, l1, l2, some (.int x)] [v0, v1, v2, v3] m Q ↔ AW d 289 884 [l0, l1, l2, some (.int x)] [.int x, v0, v1, v2, v3] m Q := A_iload_n hB_L_law dL_law_883 rfl
theorem dL_law_884 : decode cL_law 884 = .ok (.iconst 2, 1) := by decide +kernel
theorem tL_law_884 {d : Nat} {l0 l1 l2 l3 : Option Value} {v0 v1 v2 v3 v4 : Value} {m : jmM} {Q : Option Value → jmM → Prop} : AW d 289 884 [l0, l1, l2, l3] [v0, v1, v2, v3, v4] m Q ↔ AW d 289 885 [l0, l1, l2, l3] [.int 2, v0, v1, v2, v3, v4] m Q := A_iconst hB_L_law dL_law_884 (by decide)
theorem dL_law_885 : decode cL_law 885 = .ok (.iadd, 1) := by decide +kernel
theorem tL_law_885 {d : Nat} {l0 l1 l2 l3 : Option Value} {v2 v3 v4 v5 : Value} {x y : Int32} {m : jmM} {Q : Option Value → jmM → Prop} : AW d 289 885 [l0, l1, l2, l3] [.int y, .int x, v2, v3, v4, v5] m Q ↔ AW d 289 886 [l0, l1, l2, l3] [.int (x + y), v2, v3, v4, v5] m Q := A_iadd hB_L_law dL_law_885
theorem dL_law_886 : decode cL_law 886 = .ok (.iaload, 1) := by decide +kernel
theorem tL_law_886 {d : Nat} {l0 l1 l2 l3 : Option Value} {v2 v3 v4 : Value} {i : Int32} {a : Nat} {m : jmM} {Q : Option Value → jmM → Prop} : AW d 289 886 [l0, l1, l2, l3] [.int i, .ref a, v2, v3, v4] m Q ↔ (((mS m a).1 = 20 ∨ a = jScr) ∧ jIx i (mS m a).2) ∧ AW d 289 887 [l0, l1, l2, l3] [.int (mI m a (jx i)), v2, v3, v4] m Q := A_iaload hB_L_law dL_law_886
theorem dL_law_887 : decode cL_law 887 = .ok (.aload_n 0, 1) := by decide +kernel
theorem tL_law_887 {d : Nat} {l1 l2 l3 : Option Value} {v0 v1 v2 v3 : Value} {x : Nat} {m : jmM} {Q : Option Value → jmM → Prop} : AW d 289 887 [some (.ref x), l1, l2, l3] [v0, v1, v2, v3] m Q ↔ AW d 289 888 [some (.ref x), l1, l2, l3] [.ref x, v0, v1, v2, v3] m Q := A_aload_n hB_L_law dL_law_887 rfl
theorem dL_law_888 : decode cL_law 888 = .ok (.iload_n 3, 1) := by decide +kernel
theorem tL_law_888 {d : Nat} {l0 l1 l2 : Option Value} {v0 v1 v2 v3 v4 : Value} {x : Int32} {m : jmM} {Q : Option Value → jmM → Prop} : AW d 289 888 [l0, l1, l2, some (.int x)] [v0, v1, v2, v3, v4] m Q ↔ AW d 289 889 [l0, l1, l2, some (.int x)] [.int x, v0, v1, v2, v3, v4] m Q := A_iload_n hB_L_law dL_law_888 rfl
theorem dL_law_889 : decode cL_law 889 = .ok (.iconst 3, 1) := by decide +kernel
theorem tL_law_889 {d : Nat} {l0 l1 l2 l3 : Option Value} {v0 v1 v2 v3 v4 v5 : Value} {m : jmM} {Q : Option Value → jmM → Prop} : AW d 289 889 [l0, l1, l2, l3] [v0, v1, v2, v3, v4, v5] m Q ↔ AW d 289 890 [l0, l1, l2, l3] [.int 3, v0, v1, v2, v3, v4, v5] m Q := A_iconst hB_L_law dL_law_889 (by decide)
theorem dL_law_890 : decode cL_law 890 = .ok (.iadd, 1) := by decide +kernel
theorem tL_law_890 {d : Nat} {l0 l1 l2 l3 : Option Value} {v2 v3 v4 v5 v6 : Value} {x y : Int32} {m : jmM} {Q : Option Value → jmM → Prop} : AW d 289 890 [l0, l1, l2, l3] [.int y, .int x, v2, v3, v4, v5, v6] m Q ↔ AW d 289 891 [l0, l1, l2, l3] [.int (x + y), v2, v3, v4, v5, v6] m Q := A_iadd hB_L_law dL_law_890
theorem dL_law_891 : decode cL_law 891 = .ok (.iaload, 1) := by decide +kernel
theorem tL_law_891 {d : Nat} {l0 l1 l2 l3 : Option Value} {v2 v3 v4 v5 : Value} {i : Int32} {a : Nat} {m : jmM} {Q : Option Value → jmM → Prop} : AW d 289 891 [l0, l1, l2, l3] [.int i, .ref a, v2, v3, v4, v5] m Q ↔ (((mS m a).1 = 20 ∨ a = jScr) ∧ jIx i (mS m a).2) ∧ AW d 289 892 [l0, l1, l2, l3] [.int (mI m a (jx i)), v2, v3, v4, v5] m Q := A_iaload hB_L_law dL_law_891
theorem dL_law_892 : decode cL_law 892 = .ok (.aload_n 0, 1) := by decide +kernel
theorem tL_law_892 {d : Nat} {l1 l2 l3 : Option Value} {v0 v1 v2 v3 v4 : Value} {x : Nat} {m : jmM} {Q : Option Value → jmM → Prop} : AW d 289 892 [some (.ref x), l1, l2, l3] [v0, v1, v2, v3, v4] m Q ↔ AW d 289 893 [some (.ref x), l1, l2, l3] [.ref x, v0, v1, v2, v3, v4] m Q := A_aload_n hB_L_law dL_law_892 rfl
theorem dL_law_893 : decode cL_law 893 = .ok (.iload_n 3, 1) := by decide +kernel
theorem tL_law_893 {d : Nat} {l0 l1 l2 : Option Value} {v0 v1 v2 v3 v4 v5 : Value} {x : Int32} {m : jmM} {Q : Option Value → jmM → Prop} : AW d 289 893 [l0, l1, l2, some (.int x)] [v0, v1, v2, v3, v4, v5] m Q ↔ AW d 289 894 [l0, l1, l2, some (.int x)] [.int x, v0, v1, v2, v3, v4, v5] m Q := A_iload_n hB_L_law dL_law_893 rfl
theorem dL_law_894 : decode cL_law 894 = .ok (.iconst 4, 1) := by decide +kernel
theorem tL_law_894 {d : Nat} {l0 l1 l2 l3 : Option Value} {v0 v1 v2 v3 v4 v5 v6 : Value} {m : jmM} {Q : Option Value → jmM → Prop} : AW d 289 894 [l0, l1, l2, l3] [v0, v1, v2, v3, v4, v5, v6] m Q ↔ AW d 289 895 [l0, l1, l2, l3] [.int 4, v0, v1, v2, v3, v4, v5, v6] m Q := A_iconst hB_L_law dL_law_894 (by decide)
theorem dL_law_895 : decode cL_law 895 = .ok (.iadd, 1) := by decide +kernel
theorem tL_law_895 {d : Nat} {l0 l1 l2 l3 : Option Value} {v2 v3 v4 v5 v6 v7 : Value} {x y : Int32} {m : jmM} {Q : Option Value → jmM → Prop} : AW d 289 895 [l0, l1, l2, l3] [.int y, .int x, v2, v3, v4, v5, v6, v7] m Q ↔ AW d 289 896 [l0, l1, l2, l3] [.int (x + y), v2, v3, v4, v5, v6, v7] m Q := A_iadd hB_L_law dL_law_895
theorem dL_law_896 : decode cL_law 896 = .ok (.iaload, 1) := by decide +kernel
theorem tL_law_896 {d : Nat} {l0 l1 l2 l3 : Option Value} {v2 v3 v4 v5 v6 : Value} {i : Int32} {a : Nat} {m : jmM} {Q : Option Value → jmM → Prop} : AW d 289 896 [l0, l1, l2, l3] [.int i, .ref a, v2, v3, v4, v5, v6] m Q ↔ (((mS m a).1 = 20 ∨ a = jScr) ∧ jIx i (mS m a).2) ∧ AW d 289 897 [l0, l1, l2, l3] [.int (mI m a (jx i)), v2, v3, v4, v5, v6] m Q := A_iaload hB_L_law dL_law_896
theorem dL_law_897 : decode cL_law 897 = .ok (.aload_n 0, 1) := by decide +kernel
theorem tL_law_897 {d : Nat} {l1 l2 l3 : Option Value} {v0 v1 v2 v3 v4 v5 : Value} {x : Nat} {m : jmM} {Q : Option Value → jmM → Prop} : AW d 289 897 [some (.ref x), l1, l2, l3] [v0, v1, v2, v3, v4, v5] m Q ↔ AW d 289 898 [some (.ref x), l1, l2, l3] [.ref x, v0, v1, v2, v3, v4, v5] m Q := A_aload_n hB_L_law dL_law_897 rfl
theorem dL_law_898 : decode cL_law 898 = .ok (.iload_n 3, 1) := by decide +kernel
theorem tL_law_898 {d : Nat} {l0 l1 l2 : Option Value} {v0 v1 v2 v3 v4 v5 v6 : Value} {x : Int32} {m : jmM} {Q : Option Value → jmM → Prop} : AW d 289 898 [l0, l1, l2, some (.int x)] [v0, v1, v2, v3, v4, v5, v6] m Q ↔ AW d 289 899 [l0, l1, l2, some (.int x)] [.int x, v0, v1, v2, v3, v4, v5, v6] m Q := A_iload_n hB_L_law dL_law_898 rfl
theorem dL_law_899 : decode cL_law 899 = .ok (.iconst 5, 1) := by decide +kernel
theorem tL_law_899 {d : Nat} {l0 l1 l2 l3 : Option Value} {v0 v1 v2 v3 v4 v5 v6 v7 : Value} {m : jmM} {Q : Option Value → jmM → Prop} : AW d 289 899 [l0, l1, l2, l3] [v0, v1, v2, v3, v4, v5, v6, v7] m Q ↔ AW d 289 900 [l0, l1, l2, l3] [.int 5, v0, v1, v2, v3, v4, v5, v6, v7] m Q := A_iconst hB_L_law dL_law_899 (by decide)
theorem dL_law_900 : decode cL_law 900 = .ok (.iadd, 1) := by decide +kernel
theorem tL_law_900 {d : Nat} {l0 l1 l2 l3 : Option Value} {v2 v3 v4 v5 v6 v7 v8 : Value} {x y : Int32} {m : jmM} {Q : Option Value → jmM → Prop} : AW d 289 900 [l0, l1, l2, l3] [.int y, .int x, v2, v3, v4, v5, v6, v7, v8] m Q ↔ AW d 289 901 [l0, l1, l2, l3] [.int (x + y), v2, v3, v4, v5, v6, v7, v8] m Q := A_iadd hB_L_law dL_law_900
theorem dL_law_901 : decode cL_law 901 = .ok (.iaload, 1) := by decide +kernel
theorem tL_law_901 {d : Nat} {l0 l1 l2 l3 : Option Value} {v2 v3 v4 v5 v6 v7 : Value} {i : Int32} {a : Nat} {m : jmM} {Q : Option Value → jmM → Prop} : AW d 289 901 [l0, l1, l2, l3] [.int i, .ref a, v2, v3, v4, v5, v6, v7] m Q ↔ (((mS m a).1 = 20 ∨ a = jScr) ∧ jIx i (mS m a).2) ∧ AW d 289 902 [l0, l1, l2, l3] [.int (mI m a (jx i)), v2, v3, v4, v5, v6, v7] m Q := A_iaload hB_L_law dL_law_901
theorem dL_law_902 : decode cL_law 902 = .ok (.invokevirtual 109, 3) := by decide +kernel
theorem tL_law_902 {d : Nat} {l0 l1 l2 l3 : Option Value} {v6 : Value} {y0 y1 y2 y3 y4 : Value} {a : Nat} {m : jmM} {Q : Option Value → jmM → Prop} : AW d 289 902 [l0, l1, l2, l3] [y0, y1, y2, y3, y4, .ref a, v6] m Q ↔ (mS m a).1 = 12 ∧ CC d 271 [.ref a, y4, y3, y2, y1, y0] m (jK d 289 905 [l0, l1, l2, l3] [v6] Q) := A_callV hB_L_law dL_law_902 hO_L_law fS_13_109 ⟨Nat.le_of_ble_eq_true rfl, Nat.le_of_ble_eq_true rfl⟩ rfl rfl rfl
theorem dL_law_905 : decode cL_law 905 = .ok (.if_icmp .eq 517, 3) := by decide +kernel
theorem tL_law_905 {d : Nat} {l0 l1 l2 l3 : Option Value} {x y : Int32} {m : jmM} {Q : Option Value → jmM → Prop} : AW d 289 905 [l0, l1, l2, l3] [.int y, .int x] m Q ↔ if x = y then AW d 289 1422 [l0, l1, l2, l3] [] m Q else AW d 289 908 [l0, l1, l2, l3] [] m Q := A_icmp_eq hB_L_law dL_law_905 (by decide)
theorem dL_law_908 : decode cL_law 908 = .ok (.iconst 0, 1) := by decide +kernel
theorem tL_law_908 {d : Nat} {l0 l1 l2 l3 : Option Value} {m : jmM} {Q : Option Value → jmM → Prop} : AW d 289 908 [l0, l1, l2, l3] [] m Q ↔ AW d 289 909 [l0, l1, l2, l3] [.int 0] m Q := A_iconst hB_L_law dL_law_908 (by decide)
theorem dL_law_909 : decode cL_law 909 = .ok (.ireturn, 1) := by decide +kernel
theorem tL_law_909 {d : Nat} {l0 l1 l2 l3 : Option Value} {x : Int32} {m : jmM} {Q : Option Value → jmM → Prop} : AW d 289 909 [l0, l1, l2, l3] [.int x] m Q ↔ jBool x ∧ Q (some (.int x)) m := A_zreturn hB_L_law dL_law_909 hR_L_law
theorem dL_law_910 : decode cL_law 910 = .ok (.aload_n 1, 1) := by decide +kernel
theorem tL_law_910 {d : Nat} {l0 l2 l3 : Option Value} {x : Nat} {m : jmM} {Q : Option Value → jmM → Prop} : AW d 289 910 [l0, some (.ref x), l2, l3] [] m Q ↔ AW d 289 911 [l0, some (.ref x), l2, l3] [.ref x] m Q := A_aload_n hB_L_law dL_law_910 rfl
theorem dL_law_911 : decode cL_law 911 = .ok (.aload_n 0, 1) := by decide +kernel
theorem tL_law_911 {d : Nat} {l1 l2 l3 : Option Value} {v0 : Value} {x : Nat} {m : jmM} {Q : Option Value → jmM → Prop} : AW d 289 911 [some (.ref x), l1, l2, l3] [v0] m Q ↔ AW d 289 912 [some (.ref x), l1, l2, l3] [.ref x, v0] m Q := A_aload_n hB_L_law dL_law_911 rfl
theorem dL_law_912 : decode cL_law 912 = .ok (.iload_n 3, 1) := by decide +kernel
theorem tL_law_912 {d : Nat} {l0 l1 l2 : Option Value} {v0 v1 : Value} {x : Int32} {m : jmM} {Q : Option Value → jmM → Prop} : AW d 289 912 [l0, l1, l2, some (.int x)] [v0, v1] m Q ↔ AW d 289 913 [l0, l1, l2, some (.int x)] [.int x, v0, v1] m Q := A_iload_n hB_L_law dL_law_912 rfl
theorem dL_law_913 : decode cL_law 913 = .ok (.iconst 1, 1) := by decide +kernel
theorem tL_law_913 {d : Nat} {l0 l1 l2 l3 : Option Value} {v0 v1 v2 : Value} {m : jmM} {Q : Option Value → jmM → Prop} : AW d 289 913 [l0, l1, l2, l3] [v0, v1, v2] m Q ↔ AW d 289 914 [l0, l1, l2, l3] [.int 1, v0, v1, v2] m Q := A_iconst hB_L_law dL_law_913 (by decide)
theorem dL_law_914 : decode cL_law 914 = .ok (.iadd, 1) := by decide +kernel
theorem tL_law_914 {d : Nat} {l0 l1 l2 l3 : Option Value} {v2 v3 : Value} {x y : Int32} {m : jmM} {Q : Option Value → jmM → Prop} : AW d 289 914 [l0, l1, l2, l3] [.int y, .int x, v2, v3] m Q ↔ AW d 289 915 [l0, l1, l2, l3] [.int (x + y), v2, v3] m Q := A_iadd hB_L_law dL_law_914
theorem dL_law_915 : decode cL_law 915 = .ok (.iaload, 1) := by decide +kernel
theorem tL_law_915 {d : Nat} {l0 l1 l2 l3 : Option Value} {v2 : Value} {i : Int32} {a : Nat} {m : jmM} {Q : Option Value → jmM → Prop} : AW d 289 915 [l0, l1, l2, l3] [.int i, .ref a, v2] m Q ↔ (((mS m a).1 = 20 ∨ a = jScr) ∧ jIx i (mS m a).2) ∧ AW d 289 916 [l0, l1, l2, l3] [.int (mI m a (jx i)), v2] m Q := A_iaload hB_L_law dL_law_915
theorem dL_law_916 : decode cL_law 916 = .ok (.aload_n 0, 1) := by decide +kernel
theorem tL_law_916 {d : Nat} {l1 l2 l3 : Option Value} {v0 v1 : Value} {x : Nat} {m : jmM} {Q : Option Value → jmM → Prop} : AW d 289 916 [some (.ref x), l1, l2, l3] [v0, v1] m Q ↔ AW d 289 917 [some (.ref x), l1, l2, l3] [.ref x, v0, v1] m Q := A_aload_n hB_L_law dL_law_916 rfl
theorem dL_law_917 : decode cL_law 917 = .ok (.iload_n 3, 1) := by decide +kernel
theorem tL_law_917 {d : Nat} {l0 l1 l2 : Option Value} {v0 v1 v2 : Value} {x : Int32} {m : jmM} {Q : Option Value → jmM → Prop} : AW d 289 917 [l0, l1, l2, some (.int x)] [v0, v1, v2] m Q ↔ AW d 289 918 [l0, l1, l2, some (.int x)] [.int x, v0, v1, v2] m Q := A_iload_n hB_L_law dL_law_917 rfl
theorem dL_law_918 : decode cL_law 918 = .ok (.iconst 2, 1) := by decide +kernel
theorem tL_law_918 {d : Nat} {l0 l1 l2 l3 : Option Value} {v0 v1 v2 v3 : Value} {m : jmM} {Q : Option Value → jmM → Prop} : AW d 289 918 [l0, l1, l2, l3] [v0, v1, v2, v3] m Q ↔ AW d 289 919 [l0, l1, l2, l3] [.int 2, v0, v1, v2, v3] m Q := A_iconst hB_L_law dL_law_918 (by decide)
theorem dL_law_919 : decode cL_law 919 = .ok (.iadd, 1) := by decide +kernel
theorem tL_law_919 {d : Nat} {l0 l1 l2 l3 : Option Value} {v2 v3 v4 : Value} {x y : Int32} {m : jmM} {Q : Option Value → jmM → Prop} : AW d 289 919 [l0, l1, l2, l3] [.int y, .int x, v2, v3, v4] m Q ↔ AW d 289 920 [l0, l1, l2, l3] [.int (x + y), v2, v3, v4] m Q := A_iadd hB_L_law dL_law_919
theorem dL_law_920 : decode cL_law 920 = .ok (.iaload, 1) := by decide +kernel
theorem tL_law_920 {d : Nat} {l0 l1 l2 l3 : Option Value} {v2 v3 : Value} {i : Int32} {a : Nat} {m : jmM} {Q : Option Value → jmM → Prop} : AW d 289 920 [l0, l1, l2, l3] [.int i, .ref a, v2, v3] m Q ↔ (((mS m a).1 = 20 ∨ a = jScr) ∧ jIx i (mS m a).2) ∧ AW d 289 921 [l0, l1, l2, l3] [.int (mI m a (jx i)), v2, v3] m Q := A_iaload hB_L_law dL_law_920
theorem dL_law_921 : decode cL_law 921 = .ok (.aload_n 0, 1) := by decide +kernel
theorem tL_law_921 {d : Nat} {l1 l2 l3 : Option Value} {v0 v1 v2 : Value} {x : Nat} {m : jmM} {Q : Option Value → jmM → Prop} : AW d 289 921 [some (.ref x), l1, l2, l3] [v0, v1, v2] m Q ↔ AW d 289 922 [some (.ref x), l1, l2, l3] [.ref x, v0, v1, v2] m Q := A_aload_n hB_L_law dL_law_921 rfl
theorem dL_law_922 : decode cL_law 922 = .ok (.iload_n 3, 1) := by decide +kernel
theorem tL_law_922 {d : Nat} {l0 l1 l2 : Option Value} {v0 v1 v2 v3 : Value} {x : Int32} {m : jmM} {Q : Option Value → jmM → Prop} : AW d 289 922 [l0, l1, l2, some (.int x)] [v0, v1, v2, v3] m Q ↔ AW d 289 923 [l0, l1, l2, some (.int x)] [.int x, v0, v1, v2, v3] m Q := A_iload_n hB_L_law dL_law_922 rfl
theorem dL_law_923 : decode cL_law 923 = .ok (.iconst 3, 1) := by decide +kernel
theorem tL_law_923 {d : Nat} {l0 l1 l2 l3 : Option Value} {v0 v1 v2 v3 v4 : Value} {m : jmM} {Q : Option Value → jmM → Prop} : AW d 289 923 [l0, l1, l2, l3] [v0, v1, v2, v3, v4] m Q ↔ AW d 289 924 [l0, l1, l2, l3] [.int 3, v0, v1, v2, v3, v4] m Q := A_iconst hB_L_law dL_law_923 (by decide)
theorem dL_law_924 : decode cL_law 924 = .ok (.iadd, 1) := by decide +kernel
theorem tL_law_924 {d : Nat} {l0 l1 l2 l3 : Option Value} {v2 v3 v4 v5 : Value} {x y : Int32} {m : jmM} {Q : Option Value → jmM → Prop} : AW d 289 924 [l0, l1, l2, l3] [.int y, .int x, v2, v3, v4, v5] m Q ↔ AW d 289 925 [l0, l1, l2, l3] [.int (x + y), v2, v3, v4, v5] m Q := A_iadd hB_L_law dL_law_924
theorem dL_law_925 : decode cL_law 925 = .ok (.iaload, 1) := by decide +kernel
theorem tL_law_925 {d : Nat} {l0 l1 l2 l3 : Option Value} {v2 v3 v4 : Value} {i : Int32} {a : Nat} {m : jmM} {Q : Option Value → jmM → Prop} : AW d 289 925 [l0, l1, l2, l3] [.int i, .ref a, v2, v3, v4] m Q ↔ (((mS m a).1 = 20 ∨ a = jScr) ∧ jIx i (mS m a).2) ∧ AW d 289 926 [l0, l1, l2, l3] [.int (mI m a (jx i)), v2, v3, v4] m Q := A_iaload hB_L_law dL_law_925
theorem dL_law_926 : decode cL_law 926 = .ok (.invokevirtual 110, 3) := by decide +kernel
theorem tL_law_926 {d : Nat} {l0 l1 l2 l3 : Option Value} {y0 y1 y2 : Value} {a : Nat} {m : jmM} {Q : Option Value → jmM → Prop} : AW d 289 926 [l0, l1, l2, l3] [y0, y1, y2, .ref a] m Q ↔ (mS m a).1 = 11 ∧ CC d 163 [.ref a, y2, y1, y0] m (jK d 289 929 [l0, l1, l2, l3] [] Q) := A_callV hB_L_law dL_law_926 hO_L_law fS_13_110 ⟨Nat.le_of_ble_eq_true rfl, Nat.le_of_ble_eq_true rfl⟩ rfl rfl rfl
theorem dL_law_929 : decode cL_law 929 = .ok (.aload_n 2, 1) := by decide +kernel
theorem tL_law_929 {d : Nat} {l0 l1 l3 : Option Value} {v0 : Value} {x : Nat} {m : jmM} {Q : Option Value → jmM → Prop} : AW d 289 929 [l0, l1, some (.ref x), l3] [v0] m Q ↔ AW d 289 930 [l0, l1, some (.ref x), l3] [.ref x, v0] m Q := A_aload_n hB_L_law dL_law_929 rfl
theorem dL_law_930 : decode cL_law 930 = .ok (.aload_n 0, 1) := by decide +kernel
theorem tL_law_930 {d : Nat} {l1 l2 l3 : Option Value} {v0 v1 : Value} {x : Nat} {m : jmM} {Q : Option Value → jmM → Prop} : AW d 289 930 [some (.ref x), l1, l2, l3] [v0, v1] m Q ↔ AW d 289 931 [some (.ref x), l1, l2, l3] [.ref x, v0, v1] m Q := A_aload_n hB_L_law dL_law_930 rfl
theorem dL_law_931 : decode cL_law 931 = .ok (.iload_n 3, 1) := by decide +kernel
theorem tL_law_931 {d : Nat} {l0 l1 l2 : Option Value} {v0 v1 v2 : Value} {x : Int32} {m : jmM} {Q : Option Value → jmM → Prop} : AW d 289 931 [l0, l1, l2, some (.int x)] [v0, v1, v2] m Q ↔ AW d 289 932 [l0, l1, l2, some (.int x)] [.int x, v0, v1, v2] m Q := A_iload_n hB_L_law dL_law_931 rfl
theorem dL_law_932 : decode cL_law 932 = .ok (.iconst 1, 1) := by decide +kernel
theorem tL_law_932 {d : Nat} {l0 l1 l2 l3 : Option Value} {v0 v1 v2 v3 : Value} {m : jmM} {Q : Option Value → jmM → Prop} : AW d 289 932 [l0, l1, l2, l3] [v0, v1, v2, v3] m Q ↔ AW d 289 933 [l0, l1, l2, l3] [.int 1, v0, v1, v2, v3] m Q := A_iconst hB_L_law dL_law_932 (by decide)
theorem dL_law_933 : decode cL_law 933 = .ok (.iadd, 1) := by decide +kernel
theorem tL_law_933 {d : Nat} {l0 l1 l2 l3 : Option Value} {v2 v3 v4 : Value} {x y : Int32} {m : jmM} {Q : Option Value → jmM → Prop} : AW d 289 933 [l0, l1, l2, l3] [.int y, .int x, v2, v3, v4] m Q ↔ AW d 289 934 [l0, l1, l2, l3] [.int (x + y), v2, v3, v4] m Q := A_iadd hB_L_law dL_law_933
theorem dL_law_934 : decode cL_law 934 = .ok (.iaload, 1) := by decide +kernel
theorem tL_law_934 {d : Nat} {l0 l1 l2 l3 : Option Value} {v2 v3 : Value} {i : Int32} {a : Nat} {m : jmM} {Q : Option Value → jmM → Prop} : AW d 289 934 [l0, l1, l2, l3] [.int i, .ref a, v2, v3] m Q ↔ (((mS m a).1 = 20 ∨ a = jScr) ∧ jIx i (mS m a).2) ∧ AW d 289 935 [l0, l1, l2, l3] [.int (mI m a (jx i)), v2, v3] m Q := A_iaload hB_L_law dL_law_934
theorem dL_law_935 : decode cL_law 935 = .ok (.aload_n 0, 1) := by decide +kernel
theorem tL_law_935 {d : Nat} {l1 l2 l3 : Option Value} {v0 v1 v2 : Value} {x : Nat} {m : jmM} {Q : Option Value → jmM → Prop} : AW d 289 935 [some (.ref x), l1, l2, l3] [v0, v1, v2] m Q ↔ AW d 289 936 [some (.ref x), l1, l2, l3] [.ref x, v0, v1, v2] m Q := A_aload_n hB_L_law dL_law_935 rfl
theorem dL_law_936 : decode cL_law 936 = .ok (.iload_n 3, 1) := by decide +kernel
theorem tL_law_936 {d : Nat} {l0 l1 l2 : Option Value} {v0 v1 v2 v3 : Value} {x : Int32} {m : jmM} {Q : Option Value → jmM → Prop} : AW d 289 936 [l0, l1, l2, some (.int x)] [v0, v1, v2, v3] m Q ↔ AW d 289 937 [l0, l1, l2, some (.int x)] [.int x, v0, v1, v2, v3] m Q := A_iload_n hB_L_law dL_law_936 rfl
theorem dL_law_937 : decode cL_law 937 = .ok (.iconst 2, 1) := by decide +kernel
theorem tL_law_937 {d : Nat} {l0 l1 l2 l3 : Option Value} {v0 v1 v2 v3 v4 : Value} {m : jmM} {Q : Option Value → jmM → Prop} : AW d 289 937 [l0, l1, l2, l3] [v0, v1, v2, v3, v4] m Q ↔ AW d 289 938 [l0, l1, l2, l3] [.int 2, v0, v1, v2, v3, v4] m Q := A_iconst hB_L_law dL_law_937 (by decide)
theorem dL_law_938 : decode cL_law 938 = .ok (.iadd, 1) := by decide +kernel
theorem tL_law_938 {d : Nat} {l0 l1 l2 l3 : Option Value} {v2 v3 v4 v5 : Value} {x y : Int32} {m : jmM} {Q : Option Value → jmM → Prop} : AW d 289 938 [l0, l1, l2, l3] [.int y, .int x, v2, v3, v4, v5] m Q ↔ AW d 289 939 [l0, l1, l2, l3] [.int (x + y), v2, v3, v4, v5] m Q := A_iadd hB_L_law dL_law_938
theorem dL_law_939 : decode cL_law 939 = .ok (.iaload, 1) := by decide +kernel
theorem tL_law_939 {d : Nat} {l0 l1 l2 l3 : Option Value} {v2 v3 v4 : Value} {i : Int32} {a : Nat} {m : jmM} {Q : Option Value → jmM → Prop} : AW d 289 939 [l0, l1, l2, l3] [.int i, .ref a, v2, v3, v4] m Q ↔ (((mS m a).1 = 20 ∨ a = jScr) ∧ jIx i (mS m a).2) ∧ AW d 289 940 [l0, l1, l2, l3] [.int (mI m a (jx i)), v2, v3, v4] m Q := A_iaload hB_L_law dL_law_939
theorem dL_law_940 : decode cL_law 940 = .ok (.aload_n 0, 1) := by decide +kernel
theorem tL_law_940 {d : Nat} {l1 l2 l3 : Option Value} {v0 v1 v2 v3 : Value} {x : Nat} {m : jmM} {Q : Option Value → jmM → Prop} : AW d 289 940 [some (.ref x), l1, l2, l3] [v0, v1, v2, v3] m Q ↔ AW d 289 941 [some (.ref x), l1, l2, l3] [.ref x, v0, v1, v2, v3] m Q := A_aload_n hB_L_law dL_law_940 rfl
theorem dL_law_941 : decode cL_law 941 = .ok (.iload_n 3, 1) := by decide +kernel
theorem tL_law_941 {d : Nat} {l0 l1 l2 : Option Value} {v0 v1 v2 v3 v4 : Value} {x : Int32} {m : jmM} {Q : Option Value → jmM → Prop} : AW d 289 941 [l0, l1, l2, some (.int x)] [v0, v1, v2, v3, v4] m Q ↔ AW d 289 942 [l0, l1, l2, some (.int x)] [.int x, v0, v1, v2, v3, v4] m Q := A_iload_n hB_L_law dL_law_941 rfl
theorem dL_law_942 : decode cL_law 942 = .ok (.iconst 3, 1) := by decide +kernel
theorem tL_law_942 {d : Nat} {l0 l1 l2 l3 : Option Value} {v0 v1 v2 v3 v4 v5 : Value} {m : jmM} {Q : Option Value → jmM → Prop} : AW d 289 942 [l0, l1, l2, l3] [v0, v1, v2, v3, v4, v5] m Q ↔ AW d 289 943 [l0, l1, l2, l3] [.int 3, v0, v1, v2, v3, v4, v5] m Q := A_iconst hB_L_law dL_law_942 (by decide)
theorem dL_law_943 : decode cL_law 943 = .ok (.iadd, 1) := by decide +kernel
theorem tL_law_943 {d : Nat} {l0 l1 l2 l3 : Option Value} {v2 v3 v4 v5 v6 : Value} {x y : Int32} {m : jmM} {Q : Option Value → jmM → Prop} : AW d 289 943 [l0, l1, l2, l3] [.int y, .int x, v2, v3, v4, v5, v6] m Q ↔ AW d 289 944 [l0, l1, l2, l3] [.int (x + y), v2, v3, v4, v5, v6] m Q := A_iadd hB_L_law dL_law_943
theorem dL_law_944 : decode cL_law 944 = .ok (.iaload, 1) := by decide +kernel
theorem tL_law_944 {d : Nat} {l0 l1 l2 l3 : Option Value} {v2 v3 v4 v5 : Value} {i : Int32} {a : Nat} {m : jmM} {Q : Option Value → jmM → Prop} : AW d 289 944 [l0, l1, l2, l3] [.int i, .ref a, v2, v3, v4, v5] m Q ↔ (((mS m a).1 = 20 ∨ a = jScr) ∧ jIx i (mS m a).2) ∧ AW d 289 945 [l0, l1, l2, l3] [.int (mI m a (jx i)), v2, v3, v4, v5] m Q := A_iaload hB_L_law dL_law_944
theorem dL_law_945 : decode cL_law 945 = .ok (.invokevirtual 113, 3) := by decide +kernel
theorem tL_law_945 {d : Nat} {l0 l1 l2 l3 : Option Value} {v4 : Value} {y0 y1 y2 : Value} {a : Nat} {m : jmM} {Q : Option Value → jmM → Prop} : AW d 289 945 [l0, l1, l2, l3] [y0, y1, y2, .ref a, v4] m Q ↔ (mS m a).1 = 12 ∧ CC d 273 [.ref a, y2, y1, y0] m (jK d 289 948 [l0, l1, l2, l3] [v4] Q) := A_callV hB_L_law dL_law_945 hO_L_law fS_13_113 ⟨Nat.le_of_ble_eq_true rfl, Nat.le_of_ble_eq_true rfl⟩ rfl rfl rfl
theorem dL_law_948 : decode cL_law 948 = .ok (.if_icmp .eq 474, 3) := by decide +kernel
theorem tL_law_948 {d : Nat} {l0 l1 l2 l3 : Option Value} {x y : Int32} {m : jmM} {Q : Option Value → jmM → Prop} : AW d 289 948 [l0, l1, l2, l3] [.int y, .int x] m Q ↔ if x = y then AW d 289 1422 [l0, l1, l2, l3] [] m Q else AW d 289 951 [l0, l1, l2, l3] [] m Q := A_icmp_eq hB_L_law dL_law_948 (by decide)
theorem dL_law_951 : decode cL_law 951 = .ok (.iconst 0, 1) := by decide +kernel
theorem tL_law_951 {d : Nat} {l0 l1 l2 l3 : Option Value} {m : jmM} {Q : Option Value → jmM → Prop} : AW d 289 951 [l0, l1, l2, l3] [] m Q ↔ AW d 289 952 [l0, l1, l2, l3] [.int 0] m Q := A_iconst hB_L_law dL_law_951 (by decide)
theorem dL_law_952 : decode cL_law 952 = .ok (.ireturn, 1) := by decide +kernel
theorem tL_law_952 {d : Nat} {l0 l1 l2 l3 : Option Value} {x : Int32} {m : jmM} {Q : Option Value → jmM → Prop} : AW d 289 952 [l0, l1, l2, l3] [.int x] m Q ↔ jBool x ∧ Q (some (.int x)) m := A_zreturn hB_L_law dL_law_952 hR_L_law
theorem dL_law_953 : decode cL_law 953 = .ok (.aload_n 1, 1) := by decide +kernel
theorem tL_law_953 {d : Nat} {l0 l2 l3 : Option Value} {x : Nat} {m : jmM} {Q : Option Value → jmM → Prop} : AW d 289 953 [l0, some (.ref x), l2, l3] [] m Q ↔ AW d 289 954 [l0, some (.ref x), l2, l3] [.ref x] m Q := A_aload_n hB_L_law dL_law_953 rfl
theorem dL_law_954 : decode cL_law 954 = .ok (.aload_n 0, 1) := by decide +kernel
theorem tL_law_954 {d : Nat} {l1 l2 l3 : Option Value} {v0 : Value} {x : Nat} {m : jmM} {Q : Option Value → jmM → Prop} : AW d 289 954 [some (.ref x), l1, l2, l3] [v0] m Q ↔ AW d 289 955 [some (.ref x), l1, l2, l3] [.ref x, v0] m Q := A_aload_n hB_L_law dL_law_954 rfl
theorem dL_law_955 : decode cL_law 955 = .ok (.iload_n 3, 1) := by decide +kernel
theorem tL_law_955 {d : Nat} {l0 l1 l2 : Option Value} {v0 v1 : Value} {x : Int32} {m : jmM} {Q : Option Value → jmM → Prop} : AW d 289 955 [l0, l1, l2, some (.int x)] [v0, v1] m Q ↔ AW d 289 956 [l0, l1, l2, some (.int x)] [.int x, v0, v1] m Q := A_iload_n hB_L_law dL_law_955 rfl
theorem dL_law_956 : decode cL_law 956 = .ok (.iconst 1, 1) := by decide +kernel
theorem tL_law_956 {d : Nat} {l0 l1 l2 l3 : Option Value} {v0 v1 v2 : Value} {m : jmM} {Q : Option Value → jmM → Prop} : AW d 289 956 [l0, l1, l2, l3] [v0, v1, v2] m Q ↔ AW d 289 957 [l0, l1, l2, l3] [.int 1, v0, v1, v2] m Q := A_iconst hB_L_law dL_law_956 (by decide)
theorem dL_law_957 : decode cL_law 957 = .ok (.iadd, 1) := by decide +kernel
theorem tL_law_957 {d : Nat} {l0 l1 l2 l3 : Option Value} {v2 v3 : Value} {x y : Int32} {m : jmM} {Q : Option Value → jmM → Prop} : AW d 289 957 [l0, l1, l2, l3] [.int y, .int x, v2, v3] m Q ↔ AW d 289 958 [l0, l1, l2, l3] [.int (x + y), v2, v3] m Q := A_iadd hB_L_law dL_law_957
theorem dL_law_958 : decode cL_law 958 = .ok (.iaload, 1) := by decide +kernel
theorem tL_law_958 {d : Nat} {l0 l1 l2 l3 : Option Value} {v2 : Value} {i : Int32} {a : Nat} {m : jmM} {Q : Option Value → jmM → Prop} : AW d 289 958 [l0, l1, l2, l3] [.int i, .ref a, v2] m Q ↔ (((mS m a).1 = 20 ∨ a = jScr) ∧ jIx i (mS m a).2) ∧ AW d 289 959 [l0, l1, l2, l3] [.int (mI m a (jx i)), v2] m Q := A_iaload hB_L_law dL_law_958
theorem dL_law_959 : decode cL_law 959 = .ok (.aload_n 0, 1) := by decide +kernel
theorem tL_law_959 {d : Nat} {l1 l2 l3 : Option Value} {v0 v1 : Value} {x : Nat} {m : jmM} {Q : Option Value → jmM → Prop} : AW d 289 959 [some (.ref x), l1, l2, l3] [v0, v1] m Q ↔ AW d 289 960 [some (.ref x), l1, l2, l3] [.ref x, v0, v1] m Q := A_aload_n hB_L_law dL_law_959 rfl
theorem dL_law_960 : decode cL_law 960 = .ok (.iload_n 3, 1) := by decide +kernel
theorem tL_law_960 {d : Nat} {l0 l1 l2 : Option Value} {v0 v1 v2 : Value} {x : Int32} {m : jmM} {Q : Option Value → jmM → Prop} : AW d 289 960 [l0, l1, l2, some (.int x)] [v0, v1, v2] m Q ↔ AW d 289 961 [l0, l1, l2, some (.int x)] [.int x, v0, v1, v2] m Q := A_iload_n hB_L_law dL_law_960 rfl
theorem dL_law_961 : decode cL_law 961 = .ok (.iconst 2, 1) := by decide +kernel
theorem tL_law_961 {d : Nat} {l0 l1 l2 l3 : Option Value} {v0 v1 v2 v3 : Value} {m : jmM} {Q : Option Value → jmM → Prop} : AW d 289 961 [l0, l1, l2, l3] [v0, v1, v2, v3] m Q ↔ AW d 289 962 [l0, l1, l2, l3] [.int 2, v0, v1, v2, v3] m Q := A_iconst hB_L_law dL_law_961 (by decide)
theorem dL_law_962 : decode cL_law 962 = .ok (.iadd, 1) := by decide +kernel
theorem tL_law_962 {d : Nat} {l0 l1 l2 l3 : Option Value} {v2 v3 v4 : Value} {x y : Int32} {m : jmM} {Q : Option Value → jmM → Prop} : AW d 289 962 [l0, l1, l2, l3] [.int y, .int x, v2, v3, v4] m Q ↔ AW d 289 963 [l0, l1, l2, l3] [.int (x + y), v2, v3, v4] m Q := A_iadd hB_L_law dL_law_962
theorem dL_law_963 : decode cL_law 963 = .ok (.iaload, 1) := by decide +kernel
theorem tL_law_963 {d : Nat} {l0 l1 l2 l3 : Option Value} {v2 v3 : Value} {i : Int32} {a : Nat} {m : jmM} {Q : Option Value → jmM → Prop} : AW d 289 963 [l0, l1, l2, l3] [.int i, .ref a, v2, v3] m Q ↔ (((mS m a).1 = 20 ∨ a = jScr) ∧ jIx i (mS m a).2) ∧ AW d 289 964 [l0, l1, l2, l3] [.int (mI m a (jx i)), v2, v3] m Q := A_iaload hB_L_law dL_law_963
theorem dL_law_964 : decode cL_law 964 = .ok (.aload_n 0, 1) := by decide +kernel
theorem tL_law_964 {d : Nat} {l1 l2 l3 : Option Value} {v0 v1 v2 : Value} {x : Nat} {m : jmM} {Q : Option Value → jmM → Prop} : AW d 289 964 [some (.ref x), l1, l2, l3] [v0, v1, v2] m Q ↔ AW d 289 965 [some (.ref x), l1, l2, l3] [.ref x, v0, v1, v2] m Q := A_aload_n hB_L_law dL_law_964 rfl
theorem dL_law_965 : decode cL_law 965 = .ok (.iload_n 3, 1) := by decide +kernel
theorem tL_law_965 {d : Nat} {l0 l1 l2 : Option Value} {v0 v1 v2 v3 : Value} {x : Int32} {m : jmM} {Q : Option Value → jmM → Prop} : AW d 289 965 [l0, l1, l2, some (.int x)] [v0, v1, v2, v3] m Q ↔ AW d 289 966 [l0, l1, l2, some (.int x)] [.int x, v0, v1, v2, v3] m Q := A_iload_n hB_L_law dL_law_965 rfl
theorem dL_law_966 : decode cL_law 966 = .ok (.iconst 3, 1) := by decide +kernel
theorem tL_law_966 {d : Nat} {l0 l1 l2 l3 : Option Value} {v0 v1 v2 v3 v4 : Value} {m : jmM} {Q : Option Value → jmM → Prop} : AW d 289 966 [l0, l1, l2, l3] [v0, v1, v2, v3, v4] m Q ↔ AW d 289 967 [l0, l1, l2, l3] [.int 3, v0, v1, v2, v3, v4] m Q := A_iconst hB_L_law dL_law_966 (by decide)
theorem dL_law_967 : decode cL_law 967 = .ok (.iadd, 1) := by decide +kernel
theorem tL_law_967 {d : Nat} {l0 l1 l2 l3 : Option Value} {v2 v3 v4 v5 : Value} {x y : Int32} {m : jmM} {Q : Option Value → jmM → Prop} : AW d 289 967 [l0, l1, l2, l3] [.int y, .int x, v2, v3, v4, v5] m Q ↔ AW d 289 968 [l0, l1, l2, l3] [.int (x + y), v2, v3, v4, v5] m Q := A_iadd hB_L_law dL_law_967
theorem dL_law_968 : decode cL_law 968 = .ok (.iaload, 1) := by decide +kernel
theorem tL_law_968 {d : Nat} {l0 l1 l2 l3 : Option Value} {v2 v3 v4 : Value} {i : Int32} {a : Nat} {m : jmM} {Q : Option Value → jmM → Prop} : AW d 289 968 [l0, l1, l2, l3] [.int i, .ref a, v2, v3, v4] m Q ↔ (((mS m a).1 = 20 ∨ a = jScr) ∧ jIx i (mS m a).2) ∧ AW d 289 969 [l0, l1, l2, l3] [.int (mI m a (jx i)), v2, v3, v4] m Q := A_iaload hB_L_law dL_law_968
theorem dL_law_969 : decode cL_law 969 = .ok (.aload_n 0, 1) := by decide +kernel
theorem tL_law_969 {d : Nat} {l1 l2 l3 : Option Value} {v0 v1 v2 v3 : Value} {x : Nat} {m : jmM} {Q : Option Value → jmM → Prop} : AW d 289 969 [some (.ref x), l1, l2, l3] [v0, v1, v2, v3] m Q ↔ AW d 289 970 [some (.ref x), l1, l2, l3] [.ref x, v0, v1, v2, v3] m Q := A_aload_n hB_L_law dL_law_969 rfl
theorem dL_law_970 : decode cL_law 970 = .ok (.iload_n 3, 1) := by decide +kernel
theorem tL_law_970 {d : Nat} {l0 l1 l2 : Option Value} {v0 v1 v2 v3 v4 : Value} {x : Int32} {m : jmM} {Q : Option Value → jmM → Prop} : AW d 289 970 [l0, l1, l2, some (.int x)] [v0, v1, v2, v3, v4] m Q ↔ AW d 289 971 [l0, l1, l2, some (.int x)] [.int x, v0, v1, v2, v3, v4] m Q := A_iload_n hB_L_law dL_law_970 rfl
theorem dL_law_971 : decode cL_law 971 = .ok (.iconst 4, 1) := by decide +kernel
theorem tL_law_971 {d : Nat} {l0 l1 l2 l3 : Option Value} {v0 v1 v2 v3 v4 v5 : Value} {m : jmM} {Q : Option Value → jmM → Prop} : AW d 289 971 [l0, l1, l2, l3] [v0, v1, v2, v3, v4, v5] m Q ↔ AW d 289 972 [l0, l1, l2, l3] [.int 4, v0, v1, v2, v3, v4, v5] m Q := A_iconst hB_L_law dL_law_971 (by decide)
theorem dL_law_972 : decode cL_law 972 = .ok (.iadd, 1) := by decide +kernel
theorem tL_law_972 {d : Nat} {l0 l1 l2 l3 : Option Value} {v2 v3 v4 v5 v6 : Value} {x y : Int32} {m : jmM} {Q : Option Value → jmM → Prop} : AW d 289 972 [l0, l1, l2, l3] [.int y, .int x, v2, v3, v4, v5, v6] m Q ↔ AW d 289 973 [l0, l1, l2, l3] [.int (x + y), v2, v3, v4, v5, v6] m Q := A_iadd hB_L_law dL_law_972
theorem dL_law_973 : decode cL_law 973 = .ok (.iaload, 1) := by decide +kernel
theorem tL_law_973 {d : Nat} {l0 l1 l2 l3 : Option Value} {v2 v3 v4 v5 : Value} {i : Int32} {a : Nat} {m : jmM} {Q : Option Value → jmM → Prop} : AW d 289 973 [l0, l1, l2, l3] [.int i, .ref a, v2, v3, v4, v5] m Q ↔ (((mS m a).1 = 20 ∨ a = jScr) ∧ jIx i (mS m a).2) ∧ AW d 289 974 [l0, l1, l2, l3] [.int (mI m a (jx i)), v2, v3, v4, v5] m Q := A_iaload hB_L_law dL_law_973
theorem dL_law_974 : decode cL_law 974 = .ok (.invokevirtual 114, 3) := by decide +kernel
theorem tL_law_974 {d : Nat} {l0 l1 l2 l3 : Option Value} {y0 y1 y2 y3 : Value} {a : Nat} {m : jmM} {Q : Option Value → jmM → Prop} : AW d 289 974 [l0, l1, l2, l3] [y0, y1, y2, y3, .ref a] m Q ↔ (mS m a).1 = 11 ∧ CC d 164 [.ref a, y3, y2, y1, y0] m (jK d 289 977 [l0, l1, l2, l3] [] Q) := A_callV hB_L_law dL_law_974 hO_L_law fS_13_114 ⟨Nat.le_of_ble_eq_true rfl, Nat.le_of_ble_eq_true rfl⟩ rfl rfl rfl
theorem dL_law_977 : decode cL_law 977 = .ok (.aload_n 2, 1) := by decide +kernel
theorem tL_law_977 {d : Nat} {l0 l1 l3 : Option Value} {v0 : Value} {x : Nat} {m : jmM} {Q : Option Value → jmM → Prop} : AW d 289 977 [l0, l1, some (.ref x), l3] [v0] m Q ↔ AW d 289 978 [l0, l1, some (.ref x), l3] [.ref x, v0] m Q := A_aload_n hB_L_law dL_law_977 rfl
theorem dL_law_978 : decode cL_law 978 = .ok (.aload_n 0, 1) := by decide +kernel
theorem tL_law_978 {d : Nat} {l1 l2 l3 : Option Value} {v0 v1 : Value} {x : Nat} {m : jmM} {Q : Option Value → jmM → Prop} : AW d 289 978 [some (.ref x), l1, l2, l3] [v0, v1] m Q ↔ AW d 289 979 [some (.ref x), l1, l2, l3] [.ref x, v0, v1] m Q := A_aload_n hB_L_law dL_law_978 rfl
theorem dL_law_979 : decode cL_law 979 = .ok (.iload_n 3, 1) := by decide +kernel
theorem tL_law_979 {d : Nat} {l0 l1 l2 : Option Value} {v0 v1 v2 : Value} {x : Int32} {m : jmM} {Q : Option Value → jmM → Prop} : AW d 289 979 [l0, l1, l2, some (.int x)] [v0, v1, v2] m Q ↔ AW d 289 980 [l0, l1, l2, some (.int x)] [.int x, v0, v1, v2] m Q := A_iload_n hB_L_law dL_law_979 rfl
theorem dL_law_980 : decode cL_law 980 = .ok (.iconst 1, 1) := by decide +kernel
theorem tL_law_980 {d : Nat} {l0 l1 l2 l3 : Option Value} {v0 v1 v2 v3 : Value} {m : jmM} {Q : Option Value → jmM → Prop} : AW d 289 980 [l0, l1, l2, l3] [v0, v1, v2, v3] m Q ↔ AW d 289 981 [l0, l1, l2, l3] [.int 1, v0, v1, v2, v3] m Q := A_iconst hB_L_law dL_law_980 (by decide)
theorem dL_law_981 : decode cL_law 981 = .ok (.iadd, 1) := by decide +kernel
theorem tL_law_981 {d : Nat} {l0 l1 l2 l3 : Option Value} {v2 v3 v4 : Value} {x y : Int32} {m : jmM} {Q : Option Value → jmM → Prop} : AW d 289 981 [l0, l1, l2, l3] [.int y, .int x, v2, v3, v4] m Q ↔ AW d 289 982 [l0, l1, l2, l3] [.int (x + y), v2, v3, v4] m Q := A_iadd hB_L_law dL_law_981
theorem dL_law_982 : decode cL_law 982 = .ok (.iaload, 1) := by decide +kernel
theorem tL_law_982 {d : Nat} {l0 l1 l2 l3 : Option Value} {v2 v3 : Value} {i : Int32} {a : Nat} {m : jmM} {Q : Option Value → jmM → Prop} : AW d 289 982 [l0, l1, l2, l3] [.int i, .ref a, v2, v3] m Q ↔ (((mS m a).1 = 20 ∨ a = jScr) ∧ jIx i (mS m a).2) ∧ AW d 289 983 [l0, l1, l2, l3] [.int (mI m a (jx i)), v2, v3] m Q := A_iaload hB_L_law dL_law_982
theorem dL_law_983 : decode cL_law 983 = .ok (.aload_n 0, 1) := by decide +kernel
theorem tL_law_983 {d : Nat} {l1 l2 l3 : Option Value} {v0 v1 v2 : Value} {x : Nat} {m : jmM} {Q : Option Value → jmM → Prop} : AW d 289 983 [some (.ref x), l1, l2, l3] [v0, v1, v2] m Q ↔ AW d 289 984 [some (.ref x), l1, l2, l3] [.ref x, v0, v1, v2] m Q := A_aload_n hB_L_law dL_law_983 rfl
theorem dL_law_984 : decode cL_law 984 = .ok (.iload_n 3, 1) := by decide +kernel
theorem tL_law_984 {d : Nat} {l0 l1 l2 : Option Value} {v0 v1 v2 v3 : Value} {x : Int32} {m : jmM} {Q : Option Value → jmM → Prop} : AW d 289 984 [l0, l1, l2, some (.int x)] [v0, v1, v2, v3] m Q ↔ AW d 289 985 [l0, l1, l2, some (.int x)] [.int x, v0, v1, v2, v3] m Q := A_iload_n hB_L_law dL_law_984 rfl
theorem dL_law_985 : decode cL_law 985 = .ok (.iconst 2, 1) := by decide +kernel
theorem tL_law_985 {d : Nat} {l0 l1 l2 l3 : Option Value} {v0 v1 v2 v3 v4 : Value} {m : jmM} {Q : Option Value → jmM → Prop} : AW d 289 985 [l0, l1, l2, l3] [v0, v1, v2, v3, v4] m Q ↔ AW d 289 986 [l0, l1, l2, l3] [.int 2, v0, v1, v2, v3, v4] m Q := A_iconst hB_L_law dL_law_985 (by decide)
theorem dL_law_986 : decode cL_law 986 = .ok (.iadd, 1) := by decide +kernel
theorem tL_law_986 {d : Nat} {l0 l1 l2 l3 : Option Value} {v2 v3 v4 v5 : Value} {x y : Int32} {m : jmM} {Q : Option Value → jmM → Prop} : AW d 289 986 [l0, l1, l2, l3] [.int y, .int x, v2, v3, v4, v5] m Q ↔ AW d 289 987 [l0, l1, l2, l3] [.int (x + y), v2, v3, v4, v5] m Q := A_iadd hB_L_law dL_law_986
theorem dL_law_987 : decode cL_law 987 = .ok (.iaload, 1) := by decide +kernel
theorem tL_law_987 {d : Nat} {l0 l1 l2 l3 : Option Value} {v2 v3 v4 : Value} {i : Int32} {a : Nat} {m : jmM} {Q : Option Value → jmM → Prop} : AW d 289 987 [l0, l1, l2, l3] [.int i, .ref a, v2, v3, v4] m Q ↔ (((mS m a).1 = 20 ∨ a = jScr) ∧ jIx i (mS m a).2) ∧ AW d 289 988 [l0, l1, l2, l3] [.int (mI m a (jx i)), v2, v3, v4] m Q := A_iaload hB_L_law dL_law_987
theorem dL_law_988 : decode cL_law 988 = .ok (.aload_n 0, 1) := by decide +kernel
theorem tL_law_988 {d : Nat} {l1 l2 l3 : Option Value} {v0 v1 v2 v3 : Value} {x : Nat} {m : jmM} {Q : Option Value → jmM → Prop} : AW d 289 988 [some (.ref x), l1, l2, l3] [v0, v1, v2, v3] m Q ↔ AW d 289 989 [some (.ref x), l1, l2, l3] [.ref x, v0, v1, v2, v3] m Q := A_aload_n hB_L_law dL_law_988 rfl
theorem dL_law_989 : decode cL_law 989 = .ok (.iload_n 3, 1) := by decide +kernel
theorem tL_law_989 {d : Nat} {l0 l1 l2 : Option Value} {v0 v1 v2 v3 v4 : Value} {x : Int32} {m : jmM} {Q : Option Value → jmM → Prop} : AW d 289 989 [l0, l1, l2, some (.int x)] [v0, v1, v2, v3, v4] m Q ↔ AW d 289 990 [l0, l1, l2, some (.int x)] [.int x, v0, v1, v2, v3, v4] m Q := A_iload_n hB_L_law dL_law_989 rfl
theorem dL_law_990 : decode cL_law 990 = .ok (.iconst 3, 1) := by decide +kernel
theorem tL_law_990 {d : Nat} {l0 l1 l2 l3 : Option Value} {v0 v1 v2 v3 v4 v5 : Value} {m : jmM} {Q : Option Value → jmM → Prop} : AW d 289 990 [l0, l1, l2, l3] [v0, v1, v2, v3, v4, v5] m Q ↔ AW d 289 991 [l0, l1, l2, l3] [.int 3, v0, v1, v2, v3, v4, v5] m Q := A_iconst hB_L_law dL_law_990 (by decide)
theorem dL_law_991 : decode cL_law 991 = .ok (.iadd, 1) := by decide +kernel
theorem tL_law_991 {d : Nat} {l0 l1 l2 l3 : Option Value} {v2 v3 v4 v5 v6 : Value} {x y : Int32} {m : jmM} {Q : Option Value → jmM → Prop} : AW d 289 991 [l0, l1, l2, l3] [.int y, .int x, v2, v3, v4, v5, v6] m Q ↔ AW d 289 992 [l0, l1, l2, l3] [.int (x + y), v2, v3, v4, v5, v6] m Q := A_iadd hB_L_law dL_law_991
theorem dL_law_992 : decode cL_law 992 = .ok (.iaload, 1) := by decide +kernel
theorem tL_law_992 {d : Nat} {l0 l1 l2 l3 : Option Value} {v2 v3 v4 v5 : Value} {i : Int32} {a : Nat} {m : jmM} {Q : Option Value → jmM → Prop} : AW d 289 992 [l0, l1, l2, l3] [.int i, .ref a, v2, v3, v4, v5] m Q ↔ (((mS m a).1 = 20 ∨ a = jScr) ∧ jIx i (mS m a).2) ∧ AW d 289 993 [l0, l1, l2, l3] [.int (mI m a (jx i)), v2, v3, v4, v5] m Q := A_iaload hB_L_law dL_law_992
theorem dL_law_993 : decode cL_law 993 = .ok (.aload_n 0, 1) := by decide +kernel
theorem tL_law_993 {d : Nat} {l1 l2 l3 : Option Value} {v0 v1 v2 v3 v4 : Value} {x : Nat} {m : jmM} {Q : Option Value → jmM → Prop} : AW d 289 993 [some (.ref x), l1, l2, l3] [v0, v1, v2, v3, v4] m Q ↔ AW d 289 994 [some (.ref x), l1, l2, l3] [.ref x, v0, v1, v2, v3, v4] m Q := A_aload_n hB_L_law dL_law_993 rfl
theorem dL_law_994 : decode cL_law 994 = .ok (.iload_n 3, 1) := by decide +kernel
theorem tL_law_994 {d : Nat} {l0 l1 l2 : Option Value} {v0 v1 v2 v3 v4 v5 : Value} {x : Int32} {m : jmM} {Q : Option Value → jmM → Prop} : AW d 289 994 [l0, l1, l2, some (.int x)] [v0, v1, v2, v3, v4, v5] m Q ↔ AW d 289 995 [l0, l1, l2, some (.int x)] [.int x, v0, v1, v2, v3, v4, v5] m Q := A_iload_n hB_L_law dL_law_994 rfl
theorem dL_law_995 : decode cL_law 995 = .ok (.iconst 4, 1) := by decide +kernel
theorem tL_law_995 {d : Nat} {l0 l1 l2 l3 : Option Value} {v0 v1 v2 v3 v4 v5 v6 : Value} {m : jmM} {Q : Option Value → jmM → Prop} : AW d 289 995 [l0, l1, l2, l3] [v0, v1, v2, v3, v4, v5, v6] m Q ↔ AW d 289 996 [l0, l1, l2, l3] [.int 4, v0, v1, v2, v3, v4, v5, v6] m Q := A_iconst hB_L_law dL_law_995 (by decide)
theorem dL_law_996 : decode cL_law 996 = .ok (.iadd, 1) := by decide +kernel
theorem tL_law_996 {d : Nat} {l0 l1 l2 l3 : Option Value} {v2 v3 v4 v5 v6 v7 : Value} {x y : Int32} {m : jmM} {Q : Option Value → jmM → Prop} : AW d 289 996 [l0, l1, l2, l3] [.int y, .int x, v2, v3, v4, v5, v6, v7] m Q ↔ AW d 289 997 [l0, l1, l2, l3] [.int (x + y), v2, v3, v4, v5, v6, v7] m Q := A_iadd hB_L_law dL_law_996
theorem dL_law_997 : decode cL_law 997 = .ok (.iaload, 1) := by decide +kernel
theorem tL_law_997 {d : Nat} {l0 l1 l2 l3 : Option Value} {v2 v3 v4 v5 v6 : Value} {i : Int32} {a : Nat} {m : jmM} {Q : Option Value → jmM → Prop} : AW d 289 997 [l0, l1, l2, l3] [.int i, .ref a, v2, v3, v4, v5, v6] m Q ↔ (((mS m a).1 = 20 ∨ a = jScr) ∧ jIx i (mS m a).2) ∧ AW d 289 998 [l0, l1, l2, l3] [.int (mI m a (jx i)), v2, v3, v4, v5, v6] m Q := A_iaload hB_L_law dL_law_997
theorem dL_law_998 : decode cL_law 998 = .ok (.invokevirtual 118, 3) := by decide +kernel
theorem tL_law_998 {d : Nat} {l0 l1 l2 l3 : Option Value} {v5 : Value} {y0 y1 y2 y3 : Value} {a : Nat} {m : jmM} {Q : Option Value → jmM → Prop} : AW d 289 998 [l0, l1, l2, l3] [y0, y1, y2, y3, .ref a, v5] m Q ↔ (mS m a).1 = 12 ∧ CC d 279 [.ref a, y3, y2, y1, y0] m (jK d 289 1001 [l0, l1, l2, l3] [v5] Q) := A_callV hB_L_law dL_law_998 hO_L_law fS_13_118 ⟨Nat.le_of_ble_eq_true rfl, Nat.le_of_ble_eq_true rfl⟩ rfl rfl rfl
theorem dL_law_1001 : decode cL_law 1001 = .ok (.if_icmp .eq 421, 3) := by decide +kernel
theorem tL_law_1001 {d : Nat} {l0 l1 l2 l3 : Option Value} {x y : Int32} {m : jmM} {Q : Option Value → jmM → Prop} : AW d 289 1001 [l0, l1, l2, l3] [.int y, .int x] m Q ↔ if x = y then AW d 289 1422 [l0, l1, l2, l3] [] m Q else AW d 289 1004 [l0, l1, l2, l3] [] m Q := A_icmp_eq hB_L_law dL_law_1001 (by decide)
theorem dL_law_1004 : decode cL_law 1004 = .ok (.iconst 0, 1) := by decide +kernel
theorem tL_law_1004 {d : Nat} {l0 l1 l2 l3 : Option Value} {m : jmM} {Q : Option Value → jmM → Prop} : AW d 289 1004 [l0, l1, l2, l3] [] m Q ↔ AW d 289 1005 [l0, l1, l2, l3] [.int 0] m Q := A_iconst hB_L_law dL_law_1004 (by decide)
theorem dL_law_1005 : decode cL_law 1005 = .ok (.ireturn, 1) := by decide +kernel
theorem tL_law_1005 {d : Nat} {l0 l1 l2 l3 : Option Value} {x : Int32} {m : jmM} {Q : Option Value → jmM → Prop} : AW d 289 1005 [l0, l1, l2, l3] [.int x] m Q ↔ jBool x ∧ Q (some (.int x)) m := A_zreturn hB_L_law dL_law_1005 hR_L_law
theorem dL_law_1006 : decode cL_law 1006 = .ok (.aload_n 1, 1) := by decide +kernel
theorem tL_law_1006 {d : Nat} {l0 l2 l3 : Option Value} {x : Nat} {m : jmM} {Q : Option Value → jmM → Prop} : AW d 289 1006 [l0, some (.ref x), l2, l3] [] m Q ↔ AW d 289 1007 [l0, some (.ref x), l2, l3] [.ref x] m Q := A_aload_n hB_L_law dL_law_1006 rfl
theorem dL_law_1007 : decode cL_law 1007 = .ok (.aload_n 0, 1) := by decide +kernel
theorem tL_law_1007 {d : Nat} {l1 l2 l3 : Option Value} {v0 : Value} {x : Nat} {m : jmM} {Q : Option Value → jmM → Prop} : AW d 289 1007 [some (.ref x), l1, l2, l3] [v0] m Q ↔ AW d 289 1008 [some (.ref x), l1, l2, l3] [.ref x, v0] m Q := A_aload_n hB_L_law dL_law_1007 rfl
theorem dL_law_1008 : decode cL_law 1008 = .ok (.iload_n 3, 1) := by decide +kernel
theorem tL_law_1008 {d : Nat} {l0 l1 l2 : Option Value} {v0 v1 : Value} {x : Int32} {m : jmM} {Q : Option Value → jmM → Prop} : AW d 289 1008 [l0, l1, l2, some (.int x)] [v0, v1] m Q ↔ AW d 289 1009 [l0, l1, l2, some (.int x)] [.int x, v0, v1] m Q := A_iload_n hB_L_law dL_law_1008 rfl
theorem dL_law_1009 : decode cL_law 1009 = .ok (.iconst 1, 1) := by decide +kernel
theorem tL_law_1009 {d : Nat} {l0 l1 l2 l3 : Option Value} {v0 v1 v2 : Value} {m : jmM} {Q : Option Value → jmM → Prop} : AW d 289 1009 [l0, l1, l2, l3] [v0, v1, v2] m Q ↔ AW d 289 1010 [l0, l1, l2, l3] [.int 1, v0, v1, v2] m Q := A_iconst hB_L_law dL_law_1009 (by decide)
theorem dL_law_1010 : decode cL_law 1010 = .ok (.iadd, 1) := by decide +kernel
theorem tL_law_1010 {d : Nat} {l0 l1 l2 l3 : Option Value} {v2 v3 : Value} {x y : Int32} {m : jmM} {Q : Option Value → jmM → Prop} : AW d 289 1010 [l0, l1, l2, l3] [.int y, .int x, v2, v3] m Q ↔ AW d 289 1011 [l0, l1, l2, l3] [.int (x + y), v2, v3] m Q := A_iadd hB_L_law dL_law_1010
theorem dL_law_1011 : decode cL_law 1011 = .ok (.iaload, 1) := by decide +kernel
theorem tL_law_1011 {d : Nat} {l0 l1 l2 l3 : Option Value} {v2 : Value} {i : Int32} {a : Nat} {m : jmM} {Q : Option Value → jmM → Prop} : AW d 289 1011 [l0, l1, l2, l3] [.int i, .ref a, v2] m Q ↔ (((mS m a).1 = 20 ∨ a = jScr) ∧ jIx i (mS m a).2) ∧ AW d 289 1012 [l0, l1, l2, l3] [.int (mI m a (jx i)), v2] m Q := A_iaload hB_L_law dL_law_1011
theorem dL_law_1012 : decode cL_law 1012 = .ok (.invokevirtual 119, 3) := by decide +kernel
theorem tL_law_1012 {d : Nat} {l0 l1 l2 l3 : Option Value} {y0 : Value} {a : Nat} {m : jmM} {Q : Option Value → jmM → Prop} : AW d 289 1012 [l0, l1, l2, l3] [y0, .ref a] m Q ↔ (mS m a).1 = 11 ∧ CC d 165 [.ref a, y0] m (jK d 289 1015 [l0, l1, l2, l3] [] Q) := A_callV hB_L_law dL_law_1012 hO_L_law fS_13_119 ⟨Nat.le_of_ble_eq_true rfl, Nat.le_of_ble_eq_true rfl⟩ rfl rfl rfl
theorem dL_law_1015 : decode cL_law 1015 = .ok (.aload_n 2, 1) := by decide +kernel
theorem tL_law_1015 {d : Nat} {l0 l1 l3 : Option Value} {v0 : Value} {x : Nat} {m : jmM} {Q : Option Value → jmM → Prop} : AW d 289 1015 [l0, l1, some (.ref x), l3] [v0] m Q ↔ AW d 289 1016 [l0, l1, some (.ref x), l3] [.ref x, v0] m Q := A_aload_n hB_L_law dL_law_1015 rfl
theorem dL_law_1016 : decode cL_law 1016 = .ok (.aload_n 0, 1) := by decide +kernel
theorem tL_law_1016 {d : Nat} {l1 l2 l3 : Option Value} {v0 v1 : Value} {x : Nat} {m : jmM} {Q : Option Value → jmM → Prop} : AW d 289 1016 [some (.ref x), l1, l2, l3] [v0, v1] m Q ↔ AW d 289 1017 [some (.ref x), l1, l2, l3] [.ref x, v0, v1] m Q := A_aload_n hB_L_law dL_law_1016 rfl
theorem dL_law_1017 : decode cL_law 1017 = .ok (.iload_n 3, 1) := by decide +kernel
theorem tL_law_1017 {d : Nat} {l0 l1 l2 : Option Value} {v0 v1 v2 : Value} {x : Int32} {m : jmM} {Q : Option Value → jmM → Prop} : AW d 289 1017 [l0, l1, l2, some (.int x)] [v0, v1, v2] m Q ↔ AW d 289 1018 [l0, l1, l2, some (.int x)] [.int x, v0, v1, v2] m Q := A_iload_n hB_L_law dL_law_1017 rfl
theorem dL_law_1018 : decode cL_law 1018 = .ok (.iconst 1, 1) := by decide +kernel
theorem tL_law_1018 {d : Nat} {l0 l1 l2 l3 : Option Value} {v0 v1 v2 v3 : Value} {m : jmM} {Q : Option Value → jmM → Prop} : AW d 289 1018 [l0, l1, l2, l3] [v0, v1, v2, v3] m Q ↔ AW d 289 1019 [l0, l1, l2, l3] [.int 1, v0, v1, v2, v3] m Q := A_iconst hB_L_law dL_law_1018 (by decide)
theorem dL_law_1019 : decode cL_law 1019 = .ok (.iadd, 1) := by decide +kernel
theorem tL_law_1019 {d : Nat} {l0 l1 l2 l3 : Option Value} {v2 v3 v4 : Value} {x y : Int32} {m : jmM} {Q : Option Value → jmM → Prop} : AW d 289 1019 [l0, l1, l2, l3] [.int y, .int x, v2, v3, v4] m Q ↔ AW d 289 1020 [l0, l1, l2, l3] [.int (x + y), v2, v3, v4] m Q := A_iadd hB_L_law dL_law_1019
theorem dL_law_1020 : decode cL_law 1020 = .ok (.iaload, 1) := by decide +kernel
theorem tL_law_1020 {d : Nat} {l0 l1 l2 l3 : Option Value} {v2 v3 : Value} {i : Int32} {a : Nat} {m : jmM} {Q : Option Value → jmM → Prop} : AW d 289 1020 [l0, l1, l2, l3] [.int i, .ref a, v2, v3] m Q ↔ (((mS m a).1 = 20 ∨ a = jScr) ∧ jIx i (mS m a).2) ∧ AW d 289 1021 [l0, l1, l2, l3] [.int (mI m a (jx i)), v2, v3] m Q := A_iaload hB_L_law dL_law_1020
theorem dL_law_1021 : decode cL_law 1021 = .ok (.invokevirtual 122, 3) := by decide +kernel
theorem tL_law_1021 {d : Nat} {l0 l1 l2 l3 : Option Value} {v2 : Value} {y0 : Value} {a : Nat} {m : jmM} {Q : Option Value → jmM → Prop} : AW d 289 1021 [l0, l1, l2, l3] [y0, .ref a, v2] m Q ↔ (mS m a).1 = 12 ∧ CC d 280 [.ref a, y0] m (jK d 289 1024 [l0, l1, l2, l3] [v2] Q) := A_callV hB_L_law dL_law_1021 hO_L_law fS_13_122 ⟨Nat.le_of_ble_eq_true rfl, Nat.le_of_ble_eq_true rfl⟩ rfl rfl rfl
theorem dL_law_1024 : decode cL_law 1024 = .ok (.if_icmp .eq 398, 3) := by decide +kernel
theorem tL_law_1024 {d : Nat} {l0 l1 l2 l3 : Option Value} {x y : Int32} {m : jmM} {Q : Option Value → jmM → Prop} : AW d 289 1024 [l0, l1, l2, l3] [.int y, .int x] m Q ↔ if x = y then AW d 289 1422 [l0, l1, l2, l3] [] m Q else AW d 289 1027 [l0, l1, l2, l3] [] m Q := A_icmp_eq hB_L_law dL_law_1024 (by decide)
theorem dL_law_1027 : decode cL_law 1027 = .ok (.iconst 0, 1) := by decide +kernel
theorem tL_law_1027 {d : Nat} {l0 l1 l2 l3 : Option Value} {m : jmM} {Q : Option Value → jmM → Prop} : AW d 289 1027 [l0, l1, l2, l3] [] m Q ↔ AW d 289 1028 [l0, l1, l2, l3] [.int 0] m Q := A_iconst hB_L_law dL_law_1027 (by decide)
theorem dL_law_1028 : decode cL_law 1028 = .ok (.ireturn, 1) := by decide +kernel
theorem tL_law_1028 {d : Nat} {l0 l1 l2 l3 : Option Value} {x : Int32} {m : jmM} {Q : Option Value → jmM → Prop} : AW d 289 1028 [l0, l1, l2, l3] [.int x] m Q ↔ jBool x ∧ Q (some (.int x)) m := A_zreturn hB_L_law dL_law_1028 hR_L_law
theorem dL_law_1029 : decode cL_law 1029 = .ok (.aload_n 1, 1) := by decide +kernel
theorem tL_law_1029 {d : Nat} {l0 l2 l3 : Option Value} {x : Nat} {m : jmM} {Q : Option Value → jmM → Prop} : AW d 289 1029 [l0, some (.ref x), l2, l3] [] m Q ↔ AW d 289 1030 [l0, some (.ref x), l2, l3] [.ref x] m Q := A_aload_n hB_L_law dL_law_1029 rfl
theorem dL_law_1030 : decode cL_law 1030 = .ok (.aload_n 0, 1) := by decide +kernel
theorem tL_law_1030 {d : Nat} {l1 l2 l3 : Option Value} {v0 : Value} {x : Nat} {m : jmM} {Q : Option Value → jmM → Prop} : AW d 289 1030 [some (.ref x), l1, l2, l3] [v0] m Q ↔ AW d 289 1031 [some (.ref x), l1, l2, l3] [.ref x, v0] m Q := A_aload_n hB_L_law dL_law_1030 rfl
theorem dL_law_1031 : decode cL_law 1031 = .ok (.iload_n 3, 1) := by decide +kernel
theorem tL_law_1031 {d : Nat} {l0 l1 l2 : Option Value} {v0 v1 : Value} {x : Int32} {m : jmM} {Q : Option Value → jmM → Prop} : AW d 289 1031 [l0, l1, l2, some (.int x)] [v0, v1] m Q ↔ AW d 289 1032 [l0, l1, l2, some (.int x)] [.int x, v0, v1] m Q := A_iload_n hB_L_law dL_law_1031 rfl
theorem dL_law_1032 : decode cL_law 1032 = .ok (.iconst 1, 1) := by decide +kernel
theorem tL_law_1032 {d : Nat} {l0 l1 l2 l3 : Option Value} {v0 v1 v2 : Value} {m : jmM} {Q : Option Value → jmM → Prop} : AW d 289 1032 [l0, l1, l2, l3] [v0, v1, v2] m Q ↔ AW d 289 1033 [l0, l1, l2, l3] [.int 1, v0, v1, v2] m Q := A_iconst hB_L_law dL_law_1032 (by decide)
theorem dL_law_1033 : decode cL_law 1033 = .ok (.iadd, 1) := by decide +kernel
theorem tL_law_1033 {d : Nat} {l0 l1 l2 l3 : Option Value} {v2 v3 : Value} {x y : Int32} {m : jmM} {Q : Option Value → jmM → Prop} : AW d 289 1033 [l0, l1, l2, l3] [.int y, .int x, v2, v3] m Q ↔ AW d 289 1034 [l0, l1, l2, l3] [.int (x + y), v2, v3] m Q := A_iadd hB_L_law dL_law_1033
theorem dL_law_1034 : decode cL_law 1034 = .ok (.iaload, 1) := by decide +kernel
theorem tL_law_1034 {d : Nat} {l0 l1 l2 l3 : Option Value} {v2 : Value} {i : Int32} {a : Nat} {m : jmM} {Q : Option Value → jmM → Prop} : AW d 289 1034 [l0, l1, l2, l3] [.int i, .ref a, v2] m Q ↔ (((mS m a).1 = 20 ∨ a = jScr) ∧ jIx i (mS m a).2) ∧ AW d 289 1035 [l0, l1, l2, l3] [.int (mI m a (jx i)), v2] m Q := A_iaload hB_L_law dL_law_1034
theorem dL_law_1035 : decode cL_law 1035 = .ok (.aload_n 0, 1) := by decide +kernel
theorem tL_law_1035 {d : Nat} {l1 l2 l3 : Option Value} {v0 v1 : Value} {x : Nat} {m : jmM} {Q : Option Value → jmM → Prop} : AW d 289 1035 [some (.ref x), l1, l2, l3] [v0, v1] m Q ↔ AW d 289 1036 [some (.ref x), l1, l2, l3] [.ref x, v0, v1] m Q := A_aload_n hB_L_law dL_law_1035 rfl
theorem dL_law_1036 : decode cL_law 1036 = .ok (.iload_n 3, 1) := by decide +kernel
theorem tL_law_1036 {d : Nat} {l0 l1 l2 : Option Value} {v0 v1 v2 : Value} {x : Int32} {m : jmM} {Q : Option Value → jmM → Prop} : AW d 289 1036 [l0, l1, l2, some (.int x)] [v0, v1, v2] m Q ↔ AW d 289 1037 [l0, l1, l2, some (.int x)] [.int x, v0, v1, v2] m Q := A_iload_n hB_L_law dL_law_1036 rfl
theorem dL_law_1037 : decode cL_law 1037 = .ok (.iconst 2, 1) := by decide +kernel
theorem tL_law_1037 {d : Nat} {l0 l1 l2 l3 : Option Value} {v0 v1 v2 v3 : Value} {m : jmM} {Q : Option Value → jmM → Prop} : AW d 289 1037 [l0, l1, l2, l3] [v0, v1, v2, v3] m Q ↔ AW d 289 1038 [l0, l1, l2, l3] [.int 2, v0, v1, v2, v3] m Q := A_iconst hB_L_law dL_law_1037 (by decide)
theorem dL_law_1038 : decode cL_law 1038 = .ok (.iadd, 1) := by decide +kernel
theorem tL_law_1038 {d : Nat} {l0 l1 l2 l3 : Option Value} {v2 v3 v4 : Value} {x y : Int32} {m : jmM} {Q : Option Value → jmM → Prop} : AW d 289 1038 [l0, l1, l2, l3] [.int y, .int x, v2, v3, v4] m Q ↔ AW d 289 1039 [l0, l1, l2, l3] [.int (x + y), v2, v3, v4] m Q := A_iadd hB_L_law dL_law_1038
theorem dL_law_1039 : decode cL_law 1039 = .ok (.iaload, 1) := by decide +kernel
theorem tL_law_1039 {d : Nat} {l0 l1 l2 l3 : Option Value} {v2 v3 : Value} {i : Int32} {a : Nat} {m : jmM} {Q : Option Value → jmM → Prop} : AW d 289 1039 [l0, l1, l2, l3] [.int i, .ref a, v2, v3] m Q ↔ (((mS m a).1 = 20 ∨ a = jScr) ∧ jIx i (mS m a).2) ∧ AW d 289 1040 [l0, l1, l2, l3] [.int (mI m a (jx i)), v2, v3] m Q := A_iaload hB_L_law dL_law_1039
theorem dL_law_1040 : decode cL_law 1040 = .ok (.aload_n 0, 1) := by decide +kernel
theorem tL_law_1040 {d : Nat} {l1 l2 l3 : Option Value} {v0 v1 v2 : Value} {x : Nat} {m : jmM} {Q : Option Value → jmM → Prop} : AW d 289 1040 [some (.ref x), l1, l2, l3] [v0, v1, v2] m Q ↔ AW d 289 1041 [some (.ref x), l1, l2, l3] [.ref x, v0, v1, v2] m Q := A_aload_n hB_L_law dL_law_1040 rfl
theorem dL_law_1041 : decode cL_law 1041 = .ok (.iload_n 3, 1) := by decide +kernel
theorem tL_law_1041 {d : Nat} {l0 l1 l2 : Option Value} {v0 v1 v2 v3 : Value} {x : Int32} {m : jmM} {Q : Option Value → jmM → Prop} : AW d 289 1041 [l0, l1, l2, some (.int x)] [v0, v1, v2, v3] m Q ↔ AW d 289 1042 [l0, l1, l2, some (.int x)] [.int x, v0, v1, v2, v3] m Q := A_iload_n hB_L_law dL_law_1041 rfl
theorem dL_law_1042 : decode cL_law 1042 = .ok (.iconst 3, 1) := by decide +kernel
theorem tL_law_1042 {d : Nat} {l0 l1 l2 l3 : Option Value} {v0 v1 v2 v3 v4 : Value} {m : jmM} {Q : Option Value → jmM → Prop} : AW d 289 1042 [l0, l1, l2, l3] [v0, v1, v2, v3, v4] m Q ↔ AW d 289 1043 [l0, l1, l2, l3] [.int 3, v0, v1, v2, v3, v4] m Q := A_iconst hB_L_law dL_law_1042 (by decide)
theorem dL_law_1043 : decode cL_law 1043 = .ok (.iadd, 1) := by decide +kernel
theorem tL_law_1043 {d : Nat} {l0 l1 l2 l3 : Option Value} {v2 v3 v4 v5 : Value} {x y : Int32} {m : jmM} {Q : Option Value → jmM → Prop} : AW d 289 1043 [l0, l1, l2, l3] [.int y, .int x, v2, v3, v4, v5] m Q ↔ AW d 289 1044 [l0, l1, l2, l3] [.int (x + y), v2, v3, v4, v5] m Q := A_iadd hB_L_law dL_law_1043
theorem dL_law_1044 : decode cL_law 1044 = .ok (.iaload, 1) := by decide +kernel
theorem tL_law_1044 {d : Nat} {l0 l1 l2 l3 : Option Value} {v2 v3 v4 : Value} {i : Int32} {a : Nat} {m : jmM} {Q : Option Value → jmM → Prop} : AW d 289 1044 [l0, l1, l2, l3] [.int i, .ref a, v2, v3, v4] m Q ↔ (((mS m a).1 = 20 ∨ a = jScr) ∧ jIx i (mS m a).2) ∧ AW d 289 1045 [l0, l1, l2, l3] [.int (mI m a (jx i)), v2, v3, v4] m Q := A_iaload hB_L_law dL_law_1044
theorem dL_law_1045 : decode cL_law 1045 = .ok (.aload_n 0, 1) := by decide +kernel
theorem tL_law_1045 {d : Nat} {l1 l2 l3 : Option Value} {v0 v1 v2 v3 : Value} {x : Nat} {m : jmM} {Q : Option Value → jmM → Prop} : AW d 289 1045 [some (.ref x), l1, l2, l3] [v0, v1, v2, v3] m Q ↔ AW d 289 1046 [some (.ref x), l1, l2, l3] [.ref x, v0, v1, v2, v3] m Q := A_aload_n hB_L_law dL_law_1045 rfl
theorem dL_law_1046 : decode cL_law 1046 = .ok (.iload_n 3, 1) := by decide +kernel
theorem tL_law_1046 {d : Nat} {l0 l1 l2 : Option Value} {v0 v1 v2 v3 v4 : Value} {x : Int32} {m : jmM} {Q : Option Value → jmM → Prop} : AW d 289 1046 [l0, l1, l2, some (.int x)] [v0, v1, v2, v3, v4] m Q ↔ AW d 289 1047 [l0, l1, l2, some (.int x)] [.int x, v0, v1, v2, v3, v4] m Q := A_iload_n hB_L_law dL_law_1046 rfl
theorem dL_law_1047 : decode cL_law 1047 = .ok (.iconst 4, 1) := by decide +kernel
theorem tL_law_1047 {d : Nat} {l0 l1 l2 l3 : Option Value} {v0 v1 v2 v3 v4 v5 : Value} {m : jmM} {Q : Option Value → jmM → Prop} : AW d 289 1047 [l0, l1, l2, l3] [v0, v1, v2, v3, v4, v5] m Q ↔ AW d 289 1048 [l0, l1, l2, l3] [.int 4, v0, v1, v2, v3, v4, v5] m Q := A_iconst hB_L_law dL_law_1047 (by decide)
theorem dL_law_1048 : decode cL_law 1048 = .ok (.iadd, 1) := by decide +kernel
theorem tL_law_1048 {d : Nat} {l0 l1 l2 l3 : Option Value} {v2 v3 v4 v5 v6 : Value} {x y : Int32} {m : jmM} {Q : Option Value → jmM → Prop} : AW d 289 1048 [l0, l1, l2, l3] [.int y, .int x, v2, v3, v4, v5, v6] m Q ↔ AW d 289 1049 [l0, l1, l2, l3] [.int (x + y), v2, v3, v4, v5, v6] m Q := A_iadd hB_L_law dL_law_1048
theorem dL_law_1049 : decode cL_law 1049 = .ok (.iaload, 1) := by decide +kernel
theorem tL_law_1049 {d : Nat} {l0 l1 l2 l3 : Option Value} {v2 v3 v4 v5 : Value} {i : Int32} {a : Nat} {m : jmM} {Q : Option Value → jmM → Prop} : AW d 289 1049 [l0, l1, l2, l3] [.int i, .ref a, v2, v3, v4, v5] m Q ↔ (((mS m a).1 = 20 ∨ a = jScr) ∧ jIx i (mS m a).2) ∧ AW d 289 1050 [l0, l1, l2, l3] [.int (mI m a (jx i)), v2, v3, v4, v5] m Q := A_iaload hB_L_law dL_law_1049
theorem dL_law_1050 : decode cL_law 1050 = .ok (.invokevirtual 123, 3) := by decide +kernel
theorem tL_law_1050 {d : Nat} {l0 l1 l2 l3 : Option Value} {y0 y1 y2 y3 : Value} {a : Nat} {m : jmM} {Q : Option Value → jmM → Prop} : AW d 289 1050 [l0, l1, l2, l3] [y0, y1, y2, y3, .ref a] m Q ↔ (mS m a).1 = 11 ∧ CC d 166 [.ref a, y3, y2, y1, y0] m (jK d 289 1053 [l0, l1, l2, l3] [] Q) := A_callV hB_L_law dL_law_1050 hO_L_law fS_13_123 ⟨Nat.le_of_ble_eq_true rfl, Nat.le_of_ble_eq_true rfl⟩ rfl rfl rfl
theorem dL_law_1053 : decode cL_law 1053 = .ok (.aload_n 2, 1) := by decide +kernel
theorem tL_law_1053 {d : Nat} {l0 l1 l3 : Option Value} {v0 : Value} {x : Nat} {m : jmM} {Q : Option Value → jmM → Prop} : AW d 289 1053 [l0, l1, some (.ref x), l3] [v0] m Q ↔ AW d 289 1054 [l0, l1, some (.ref x), l3] [.ref x, v0] m Q := A_aload_n hB_L_law dL_law_1053 rfl
theorem dL_law_1054 : decode cL_law 1054 = .ok (.aload_n 0, 1) := by decide +kernel
theorem tL_law_1054 {d : Nat} {l1 l2 l3 : Option Value} {v0 v1 : Value} {x : Nat} {m : jmM} {Q : Option Value → jmM → Prop} : AW d 289 1054 [some (.ref x), l1, l2, l3] [v0, v1] m Q ↔ AW d 289 1055 [some (.ref x), l1, l2, l3] [.ref x, v0, v1] m Q := A_aload_n hB_L_law dL_law_1054 rfl
theorem dL_law_1055 : decode cL_law 1055 = .ok (.iload_n 3, 1) := by decide +kernel
theorem tL_law_1055 {d : Nat} {l0 l1 l2 : Option Value} {v0 v1 v2 : Value} {x : Int32} {m : jmM} {Q : Option Value → jmM → Prop} : AW d 289 1055 [l0, l1, l2, some (.int x)] [v0, v1, v2] m Q ↔ AW d 289 1056 [l0, l1, l2, some (.int x)] [.int x, v0, v1, v2] m Q := A_iload_n hB_L_law dL_law_1055 rfl
theorem dL_law_1056 : decode cL_law 1056 = .ok (.iconst 1, 1) := by decide +kernel
theorem tL_law_1056 {d : Nat} {l0 l1 l2 l3 : Option Value} {v0 v1 v2 v3 : Value} {m : jmM} {Q : Option Value → jmM → Prop} : AW d 289 1056 [l0, l1, l2, l3] [v0, v1, v2, v3] m Q ↔ AW d 289 1057 [l0, l1, l2, l3] [.int 1, v0, v1, v2, v3] m Q := A_iconst hB_L_law dL_law_1056 (by decide)
theorem dL_law_1057 : decode cL_law 1057 = .ok (.iadd, 1) := by decide +kernel
theorem tL_law_1057 {d : Nat} {l0 l1 l2 l3 : Option Value} {v2 v3 v4 : Value} {x y : Int32} {m : jmM} {Q : Option Value → jmM → Prop} : AW d 289 1057 [l0, l1, l2, l3] [.int y, .int x, v2, v3, v4] m Q ↔ AW d 289 1058 [l0, l1, l2, l3] [.int (x + y), v2, v3, v4] m Q := A_iadd hB_L_law dL_law_1057
theorem dL_law_1058 : decode cL_law 1058 = .ok (.iaload, 1) := by decide +kernel
theorem tL_law_1058 {d : Nat} {l0 l1 l2 l3 : Option Value} {v2 v3 : Value} {i : Int32} {a : Nat} {m : jmM} {Q : Option Value → jmM → Prop} : AW d 289 1058 [l0, l1, l2, l3] [.int i, .ref a, v2, v3] m Q ↔ (((mS m a).1 = 20 ∨ a = jScr) ∧ jIx i (mS m a).2) ∧ AW d 289 1059 [l0, l1, l2, l3] [.int (mI m a (jx i)), v2, v3] m Q := A_iaload hB_L_law dL_law_1058
theorem dL_law_1059 : decode cL_law 1059 = .ok (.aload_n 0, 1) := by decide +kernel
theorem tL_law_1059 {d : Nat} {l1 l2 l3 : Option Value} {v0 v1 v2 : Value} {x : Nat} {m : jmM} {Q : Option Value → jmM → Prop} : AW d 289 1059 [some (.ref x), l1, l2, l3] [v0, v1, v2] m Q ↔ AW d 289 1060 [some (.ref x), l1, l2, l3] [.ref x, v0, v1, v2] m Q := A_aload_n hB_L_law dL_law_1059 rfl
theorem dL_law_1060 : decode cL_law 1060 = .ok (.iload_n 3, 1) := by decide +kernel
theorem tL_law_1060 {d : Nat} {l0 l1 l2 : Option Value} {v0 v1 v2 v3 : Value} {x : Int32} {m : jmM} {Q : Option Value → jmM → Prop} : AW d 289 1060 [l0, l1, l2, some (.int x)] [v0, v1, v2, v3] m Q ↔ AW d 289 1061 [l0, l1, l2, some (.int x)] [.int x, v0, v1, v2, v3] m Q := A_iload_n hB_L_law dL_law_1060 rfl
theorem dL_law_1061 : decode cL_law 1061 = .ok (.iconst 2, 1) := by decide +kernel
theorem tL_law_1061 {d : Nat} {l0 l1 l2 l3 : Option Value} {v0 v1 v2 v3 v4 : Value} {m : jmM} {Q : Option Value → jmM → Prop} : AW d 289 1061 [l0, l1, l2, l3] [v0, v1, v2, v3, v4] m Q ↔ AW d 289 1062 [l0, l1, l2, l3] [.int 2, v0, v1, v2, v3, v4] m Q := A_iconst hB_L_law dL_law_1061 (by decide)
theorem dL_law_1062 : decode cL_law 1062 = .ok (.iadd, 1) := by decide +kernel
theorem tL_law_1062 {d : Nat} {l0 l1 l2 l3 : Option Value} {v2 v3 v4 v5 : Value} {x y : Int32} {m : jmM} {Q : Option Value → jmM → Prop} : AW d 289 1062 [l0, l1, l2, l3] [.int y, .int x, v2, v3, v4, v5] m Q ↔ AW d 289 1063 [l0, l1, l2, l3] [.int (x + y), v2, v3, v4, v5] m Q := A_iadd hB_L_law dL_law_1062
theorem dL_law_1063 : decode cL_law 1063 = .ok (.iaload, 1) := by decide +kernel
theorem tL_law_1063 {d : Nat} {l0 l1 l2 l3 : Option Value} {v2 v3 v4 : Value} {i : Int32} {a : Nat} {m : jmM} {Q : Option Value → jmM → Prop} : AW d 289 1063 [l0, l1, l2, l3] [.int i, .ref a, v2, v3, v4] m Q ↔ (((mS m a).1 = 20 ∨ a = jScr) ∧ jIx i (mS m a).2) ∧ AW d 289 1064 [l0, l1, l2, l3] [.int (mI m a (jx i)), v2, v3, v4] m Q := A_iaload hB_L_law dL_law_1063
theorem dL_law_1064 : decode cL_law 1064 = .ok (.aload_n 0, 1) := by decide +kernel
theorem tL_law_1064 {d : Nat} {l1 l2 l3 : Option Value} {v0 v1 v2 v3 : Value} {x : Nat} {m : jmM} {Q : Option Value → jmM → Prop} : AW d 289 1064 [some (.ref x), l1, l2, l3] [v0, v1, v2, v3] m Q ↔ AW d 289 1065 [some (.ref x), l1, l2, l3] [.ref x, v0, v1, v2, v3] m Q := A_aload_n hB_L_law dL_law_1064 rfl
theorem dL_law_1065 : decode cL_law 1065 = .ok (.iload_n 3, 1) := by decide +kernel
theorem tL_law_1065 {d : Nat} {l0 l1 l2 : Option Value} {v0 v1 v2 v3 v4 : Value} {x : Int32} {m : jmM} {Q : Option Value → jmM → Prop} : AW d 289 1065 [l0, l1, l2, some (.int x)] [v0, v1, v2, v3, v4] m Q ↔ AW d 289 1066 [l0, l1, l2, some (.int x)] [.int x, v0, v1, v2, v3, v4] m Q := A_iload_n hB_L_law dL_law_1065 rfl
theorem dL_law_1066 : decode cL_law 1066 = .ok (.iconst 3, 1) := by decide +kernel
theorem tL_law_1066 {d : Nat} {l0 l1 l2 l3 : Option Value} {v0 v1 v2 v3 v4 v5 : Value} {m : jmM} {Q : Option Value → jmM → Prop} : AW d 289 1066 [l0, l1, l2, l3] [v0, v1, v2, v3, v4, v5] m Q ↔ AW d 289 1067 [l0, l1, l2, l3] [.int 3, v0, v1, v2, v3, v4, v5] m Q := A_iconst hB_L_law dL_law_1066 (by decide)
theorem dL_law_1067 : decode cL_law 1067 = .ok (.iadd, 1) := by decide +kernel
theorem tL_law_1067 {d : Nat} {l0 l1 l2 l3 : Option Value} {v2 v3 v4 v5 v6 : Value} {x y : Int32} {m : jmM} {Q : Option Value → jmM → Prop} : AW d 289 1067 [l0, l1, l2, l3] [.int y, .int x, v2, v3, v4, v5, v6] m Q ↔ AW d 289 1068 [l0, l1, l2, l3] [.int (x + y), v2, v3, v4, v5, v6] m Q := A_iadd hB_L_law dL_law_1067
theorem dL_law_1068 : decode cL_law 1068 = .ok (.iaload, 1) := by decide +kernel
theorem tL_law_1068 {d : Nat} {l0 l1 l2 l3 : Option Value} {v2 v3 v4 v5 : Value} {i : Int32} {a : Nat} {m : jmM} {Q : Option Value → jmM → Prop} : AW d 289 1068 [l0, l1, l2, l3] [.int i, .ref a, v2, v3, v4, v5] m Q ↔ (((mS m a).1 = 20 ∨ a = jScr) ∧ jIx i (mS m a).2) ∧ AW d 289 1069 [l0, l1, l2, l3] [.int (mI m a (jx i)), v2, v3, v4, v5] m Q := A_iaload hB_L_law dL_law_1068
theorem dL_law_1069 : decode cL_law 1069 = .ok (.aload_n 0, 1) := by decide +kernel
theorem tL_law_1069 {d : Nat} {l1 l2 l3 : Option Value} {v0 v1 v2 v3 v4 : Value} {x : Nat} {m : jmM} {Q : Option Value → jmM → Prop} : AW d 289 1069 [some (.ref x), l1, l2, l3] [v0, v1, v2, v3, v4] m Q ↔ AW d 289 1070 [some (.ref x), l1, l2, l3] [.ref x, v0, v1, v2, v3, v4] m Q := A_aload_n hB_L_law dL_law_1069 rfl
theorem dL_law_1070 : decode cL_law 1070 = .ok (.iload_n 3, 1) := by decide +kernel
theorem tL_law_1070 {d : Nat} {l0 l1 l2 : Option Value} {v0 v1 v2 v3 v4 v5 : Value} {x : Int32} {m : jmM} {Q : Option Value → jmM → Prop} : AW d 289 1070 [l0, l1, l2, some (.int x)] [v0, v1, v2, v3, v4, v5] m Q ↔ AW d 289 1071 [l0, l1, l2, some (.int x)] [.int x, v0, v1, v2, v3, v4, v5] m Q := A_iload_n hB_L_law dL_law_1070 rfl
theorem dL_law_1071 : decode cL_law 1071 = .ok (.iconst 4, 1) := by decide +kernel
theorem tL_law_1071 {d : Nat} {l0 l1 l2 l3 : Option Value} {v0 v1 v2 v3 v4 v5 v6 : Value} {m : jmM} {Q : Option Value → jmM → Prop} : AW d 289 1071 [l0, l1, l2, l3] [v0, v1, v2, v3, v4, v5, v6] m Q ↔ AW d 289 1072 [l0, l1, l2, l3] [.int 4, v0, v1, v2, v3, v4, v5, v6] m Q := A_iconst hB_L_law dL_law_1071 (by decide)
theorem dL_law_1072 : decode cL_law 1072 = .ok (.iadd, 1) := by decide +kernel
theorem tL_law_1072 {d : Nat} {l0 l1 l2 l3 : Option Value} {v2 v3 v4 v5 v6 v7 : Value} {x y : Int32} {m : jmM} {Q : Option Value → jmM → Prop} : AW d 289 1072 [l0, l1, l2, l3] [.int y, .int x, v2, v3, v4, v5, v6, v7] m Q ↔ AW d 289 1073 [l0, l1, l2, l3] [.int (x + y), v2, v3, v4, v5, v6, v7] m Q := A_iadd hB_L_law dL_law_1072
theorem dL_law_1073 : decode cL_law 1073 = .ok (.iaload, 1) := by decide +kernel
theorem tL_law_1073 {d : Nat} {l0 l1 l2 l3 : Option Value} {v2 v3 v4 v5 v6 : Value} {i : Int32} {a : Nat} {m : jmM} {Q : Option Value → jmM → Prop} : AW d 289 1073 [l0, l1, l2, l3] [.int i, .ref a, v2, v3, v4, v5, v6] m Q ↔ (((mS m a).1 = 20 ∨ a = jScr) ∧ jIx i (mS m a).2) ∧ AW d 289 1074 [l0, l1, l2, l3] [.int (mI m a (jx i)), v2, v3, v4, v5, v6] m Q := A_iaload hB_L_law dL_law_1073
theorem dL_law_1074 : decode cL_law 1074 = .ok (.invokevirtual 126, 3) := by decide +kernel
theorem tL_law_1074 {d : Nat} {l0 l1 l2 l3 : Option Value} {v5 : Value} {y0 y1 y2 y3 : Value} {a : Nat} {m : jmM} {Q : Option Value → jmM → Prop} : AW d 289 1074 [l0, l1, l2, l3] [y0, y1, y2, y3, .ref a, v5] m Q ↔ (mS m a).1 = 12 ∧ CC d 283 [.ref a, y3, y2, y1, y0] m (jK d 289 1077 [l0, l1, l2, l3] [v5] Q) := A_callV hB_L_law dL_law_1074 hO_L_law fS_13_126 ⟨Nat.le_of_ble_eq_true rfl, Nat.le_of_ble_eq_true rfl⟩ rfl rfl rfl
theorem dL_law_1077 : decode cL_law 1077 = .ok (.if_icmp .eq 345, 3) := by decide +kernel
theorem tL_law_1077 {d : Nat} {l0 l1 l2 l3 : Option Value} {x y : Int32} {m : jmM} {Q : Option Value → jmM → Prop} : AW d 289 1077 [l0, l1, l2, l3] [.int y, .int x] m Q ↔ if x = y then AW d 289 1422 [l0, l1, l2, l3] [] m Q else AW d 289 1080 [l0, l1, l2, l3] [] m Q := A_icmp_eq hB_L_law dL_law_1077 (by decide)
theorem dL_law_1080 : decode cL_law 1080 = .ok (.iconst 0, 1) := by decide +kernel
theorem tL_law_1080 {d : Nat} {l0 l1 l2 l3 : Option Value} {m : jmM} {Q : Option Value → jmM → Prop} : AW d 289 1080 [l0, l1, l2, l3] [] m Q ↔ AW d 289 1081 [l0, l1, l2, l3] [.int 0] m Q := A_iconst hB_L_law dL_law_1080 (by decide)
theorem dL_law_1081 : decode cL_law 1081 = .ok (.ireturn, 1) := by decide +kernel
theorem tL_law_1081 {d : Nat} {l0 l1 l2 l3 : Option Value} {x : Int32} {m : jmM} {Q : Option Value → jmM → Prop} : AW d 289 1081 [l0, l1, l2, l3] [.int x] m Q ↔ jBool x ∧ Q (some (.int x)) m := A_zreturn hB_L_law dL_law_1081 hR_L_law
theorem dL_law_1082 : decode cL_law 1082 = .ok (.aload_n 1, 1) := by decide +kernel
theorem tL_law_1082 {d : Nat} {l0 l2 l3 : Option Value} {x : Nat} {m : jmM} {Q : Option Value → jmM → Prop} : AW d 289 1082 [l0, some (.ref x), l2, l3] [] m Q ↔ AW d 289 1083 [l0, some (.ref x), l2, l3] [.ref x] m Q := A_aload_n hB_L_law dL_law_1082 rfl
theorem dL_law_1083 : decode cL_law 1083 = .ok (.aload_n 0, 1) := by decide +kernel
theorem tL_law_1083 {d : Nat} {l1 l2 l3 : Option Value} {v0 : Value} {x : Nat} {m : jmM} {Q : Option Value → jmM → Prop} : AW d 289 1083 [some (.ref x), l1, l2, l3] [v0] m Q ↔ AW d 289 1084 [some (.ref x), l1, l2, l3] [.ref x, v0] m Q := A_aload_n hB_L_law dL_law_1083 rfl
theorem dL_law_1084 : decode cL_law 1084 = .ok (.iload_n 3, 1) := by decide +kernel
theorem tL_law_1084 {d : Nat} {l0 l1 l2 : Option Value} {v0 v1 : Value} {x : Int32} {m : jmM} {Q : Option Value → jmM → Prop} : AW d 289 1084 [l0, l1, l2, some (.int x)] [v0, v1] m Q ↔ AW d 289 1085 [l0, l1, l2, some (.int x)] [.int x, v0, v1] m Q := A_iload_n hB_L_law dL_law_1084 rfl
theorem dL_law_1085 : decode cL_law 1085 = .ok (.iconst 1, 1) := by decide +kernel
theorem tL_law_1085 {d : Nat} {l0 l1 l2 l3 : Option Value} {v0 v1 v2 : Value} {m : jmM} {Q : Option Value → jmM → Prop} : AW d 289 1085 [l0, l1, l2, l3] [v0, v1, v2] m Q ↔ AW d 289 1086 [l0, l1, l2, l3] [.int 1, v0, v1, v2] m Q := A_iconst hB_L_law dL_law_1085 (by decide)
theorem dL_law_1086 : decode cL_law 1086 = .ok (.iadd, 1) := by decide +kernel
theorem tL_law_1086 {d : Nat} {l0 l1 l2 l3 : Option Value} {v2 v3 : Value} {x y : Int32} {m : jmM} {Q : Option Value → jmM → Prop} : AW d 289 1086 [l0, l1, l2, l3] [.int y, .int x, v2, v3] m Q ↔ AW d 289 1087 [l0, l1, l2, l3] [.int (x + y), v2, v3] m Q := A_iadd hB_L_law dL_law_1086
theorem dL_law_1087 : decode cL_law 1087 = .ok (.iaload, 1) := by decide +kernel
theorem tL_law_1087 {d : Nat} {l0 l1 l2 l3 : Option Value} {v2 : Value} {i : Int32} {a : Nat} {m : jmM} {Q : Option Value → jmM → Prop} : AW d 289 1087 [l0, l1, l2, l3] [.int i, .ref a, v2] m Q ↔ (((mS m a).1 = 20 ∨ a = jScr) ∧ jIx i (mS m a).2) ∧ AW d 289 1088 [l0, l1, l2, l3] [.int (mI m a (jx i)), v2] m Q := A_iaload hB_L_law dL_law_1087
theorem dL_law_1088 : decode cL_law 1088 = .ok (.aload_n 0, 1) := by decide +kernel
theorem tL_law_1088 {d : Nat} {l1 l2 l3 : Option Value} {v0 v1 : Value} {x : Nat} {m : jmM} {Q : Option Value → jmM → Prop} : AW d 289 1088 [some (.ref x), l1, l2, l3] [v0, v1] m Q ↔ AW d 289 1089 [some (.ref x), l1, l2, l3] [.ref x, v0, v1] m Q := A_aload_n hB_L_law dL_law_1088 rfl
theorem dL_law_1089 : decode cL_law 1089 = .ok (.iload_n 3, 1) := by decide +kernel
theorem tL_law_1089 {d : Nat} {l0 l1 l2 : Option Value} {v0 v1 v2 : Value} {x : Int32} {m : jmM} {Q : Option Value → jmM → Prop} : AW d 289 1089 [l0, l1, l2, some (.int x)] [v0, v1, v2] m Q ↔ AW d 289 1090 [l0, l1, l2, some (.int x)] [.int x, v0, v1, v2] m Q := A_iload_n hB_L_law dL_law_1089 rfl
theorem dL_law_1090 : decode cL_law 1090 = .ok (.iconst 2, 1) := by decide +kernel
theorem tL_law_1090 {d : Nat} {l0 l1 l2 l3 : Option Value} {v0 v1 v2 v3 : Value} {m : jmM} {Q : Option Value → jmM → Prop} : AW d 289 1090 [l0, l1, l2, l3] [v0, v1, v2, v3] m Q ↔ AW d 289 1091 [l0, l1, l2, l3] [.int 2, v0, v1, v2, v3] m Q := A_iconst hB_L_law dL_law_1090 (by decide)
theorem dL_law_1091 : decode cL_law 1091 = .ok (.iadd, 1) := by decide +kernel
theorem tL_law_1091 {d : Nat} {l0 l1 l2 l3 : Option Value} {v2 v3 v4 : Value} {x y : Int32} {m : jmM} {Q : Option Value → jmM → Prop} : AW d 289 1091 [l0, l1, l2, l3] [.int y, .int x, v2, v3, v4] m Q ↔ AW d 289 1092 [l0, l1, l2, l3] [.int (x + y), v2, v3, v4] m Q := A_iadd hB_L_law dL_law_1091
theorem dL_law_1092 : decode cL_law 1092 = .ok (.iaload, 1) := by decide +kernel
theorem tL_law_1092 {d : Nat} {l0 l1 l2 l3 : Option Value} {v2 v3 : Value} {i : Int32} {a : Nat} {m : jmM} {Q : Option Value → jmM → Prop} : AW d 289 1092 [l0, l1, l2, l3] [.int i, .ref a, v2, v3] m Q ↔ (((mS m a).1 = 20 ∨ a = jScr) ∧ jIx i (mS m a).2) ∧ AW d 289 1093 [l0, l1, l2, l3] [.int (mI m a (jx i)), v2, v3] m Q := A_iaload hB_L_law dL_law_1092
theorem dL_law_1093 : decode cL_law 1093 = .ok (.invokevirtual 127, 3) := by decide +kernel
theorem tL_law_1093 {d : Nat} {l0 l1 l2 l3 : Option Value} {y0 y1 : Value} {a : Nat} {m : jmM} {Q : Option Value → jmM → Prop} : AW d 289 1093 [l0, l1, l2, l3] [y0, y1, .ref a] m Q ↔ (mS m a).1 = 11 ∧ CC d 167 [.ref a, y1, y0] m (jK d 289 1096 [l0, l1, l2, l3] [] Q) := A_callV hB_L_law dL_law_1093 hO_L_law fS_13_127 ⟨Nat.le_of_ble_eq_true rfl, Nat.le_of_ble_eq_true rfl⟩ rfl rfl rfl
theorem dL_law_1096 : decode cL_law 1096 = .ok (.aload_n 2, 1) := by decide +kernel
theorem tL_law_1096 {d : Nat} {l0 l1 l3 : Option Value} {v0 : Value} {x : Nat} {m : jmM} {Q : Option Value → jmM → Prop} : AW d 289 1096 [l0, l1, some (.ref x), l3] [v0] m Q ↔ AW d 289 1097 [l0, l1, some (.ref x), l3] [.ref x, v0] m Q := A_aload_n hB_L_law dL_law_1096 rfl
theorem dL_law_1097 : decode cL_law 1097 = .ok (.aload_n 0, 1) := by decide +kernel
theorem tL_law_1097 {d : Nat} {l1 l2 l3 : Option Value} {v0 v1 : Value} {x : Nat} {m : jmM} {Q : Option Value → jmM → Prop} : AW d 289 1097 [some (.ref x), l1, l2, l3] [v0, v1] m Q ↔ AW d 289 1098 [some (.ref x), l1, l2, l3] [.ref x, v0, v1] m Q := A_aload_n hB_L_law dL_law_1097 rfl
theorem dL_law_1098 : decode cL_law 1098 = .ok (.iload_n 3, 1) := by decide +kernel
theorem tL_law_1098 {d : Nat} {l0 l1 l2 : Option Value} {v0 v1 v2 : Value} {x : Int32} {m : jmM} {Q : Option Value → jmM → Prop} : AW d 289 1098 [l0, l1, l2, some (.int x)] [v0, v1, v2] m Q ↔ AW d 289 1099 [l0, l1, l2, some (.int x)] [.int x, v0, v1, v2] m Q := A_iload_n hB_L_law dL_law_1098 rfl
theorem dL_law_1099 : decode cL_law 1099 = .ok (.iconst 1, 1) := by decide +kernel
theorem tL_law_1099 {d : Nat} {l0 l1 l2 l3 : Option Value} {v0 v1 v2 v3 : Value} {m : jmM} {Q : Option Value → jmM → Prop} : AW d 289 1099 [l0, l1, l2, l3] [v0, v1, v2, v3] m Q ↔ AW d 289 1100 [l0, l1, l2, l3] [.int 1, v0, v1, v2, v3] m Q := A_iconst hB_L_law dL_law_1099 (by decide)
theorem dL_law_1100 : decode cL_law 1100 = .ok (.iadd, 1) := by decide +kernel
theorem tL_law_1100 {d : Nat} {l0 l1 l2 l3 : Option Value} {v2 v3 v4 : Value} {x y : Int32} {m : jmM} {Q : Option Value → jmM → Prop} : AW d 289 1100 [l0, l1, l2, l3] [.int y, .int x, v2, v3, v4] m Q ↔ AW d 289 1101 [l0, l1, l2, l3] [.int (x + y), v2, v3, v4] m Q := A_iadd hB_L_law dL_law_1100
theorem dL_law_1101 : decode cL_law 1101 = .ok (.iaload, 1) := by decide +kernel
theorem tL_law_1101 {d : Nat} {l0 l1 l2 l3 : Option Value} {v2 v3 : Value} {i : Int32} {a : Nat} {m : jmM} {Q : Option Value → jmM → Prop} : AW d 289 1101 [l0, l1, l2, l3] [.int i, .ref a, v2, v3] m Q ↔ (((mS m a).1 = 20 ∨ a = jScr) ∧ jIx i (mS m a).2) ∧ AW d 289 1102 [l0, l1, l2, l3] [.int (mI m a (jx i)), v2, v3] m Q := A_iaload hB_L_law dL_law_1101
theorem dL_law_1102 : decode cL_law 1102 = .ok (.aload_n 0, 1) := by decide +kernel
theorem tL_law_1102 {d : Nat} {l1 l2 l3 : Option Value} {v0 v1 v2 : Value} {x : Nat} {m : jmM} {Q : Option Value → jmM → Prop} : AW d 289 1102 [some (.ref x), l1, l2, l3] [v0, v1, v2] m Q ↔ AW d 289 1103 [some (.ref x), l1, l2, l3] [.ref x, v0, v1, v2] m Q := A_aload_n hB_L_law dL_law_1102 rfl
theorem dL_law_1103 : decode cL_law 1103 = .ok (.iload_n 3, 1) := by decide +kernel
theorem tL_law_1103 {d : Nat} {l0 l1 l2 : Option Value} {v0 v1 v2 v3 : Value} {x : Int32} {m : jmM} {Q : Option Value → jmM → Prop} : AW d 289 1103 [l0, l1, l2, some (.int x)] [v0, v1, v2, v3] m Q ↔ AW d 289 1104 [l0, l1, l2, some (.int x)] [.int x, v0, v1, v2, v3] m Q := A_iload_n hB_L_law dL_law_1103 rfl
theorem dL_law_1104 : decode cL_law 1104 = .ok (.iconst 2, 1) := by decide +kernel
theorem tL_law_1104 {d : Nat} {l0 l1 l2 l3 : Option Value} {v0 v1 v2 v3 v4 : Value} {m : jmM} {Q : Option Value → jmM → Prop} : AW d 289 1104 [l0, l1, l2, l3] [v0, v1, v2, v3, v4] m Q ↔ AW d 289 1105 [l0, l1, l2, l3] [.int 2, v0, v1, v2, v3, v4] m Q := A_iconst hB_L_law dL_law_1104 (by decide)
theorem dL_law_1105 : decode cL_law 1105 = .ok (.iadd, 1) := by decide +kernel
theorem tL_law_1105 {d : Nat} {l0 l1 l2 l3 : Option Value} {v2 v3 v4 v5 : Value} {x y : Int32} {m : jmM} {Q : Option Value → jmM → Prop} : AW d 289 1105 [l0, l1, l2, l3] [.int y, .int x, v2, v3, v4, v5] m Q ↔ AW d 289 1106 [l0, l1, l2, l3] [.int (x + y), v2, v3, v4, v5] m Q := A_iadd hB_L_law dL_law_1105
theorem dL_law_1106 : decode cL_law 1106 = .ok (.iaload, 1) := by decide +kernel
theorem tL_law_1106 {d : Nat} {l0 l1 l2 l3 : Option Value} {v2 v3 v4 : Value} {i : Int32} {a : Nat} {m : jmM} {Q : Option Value → jmM → Prop} : AW d 289 1106 [l0, l1, l2, l3] [.int i, .ref a, v2, v3, v4] m Q ↔ (((mS m a).1 = 20 ∨ a = jScr) ∧ jIx i (mS m a).2) ∧ AW d 289 1107 [l0, l1, l2, l3] [.int (mI m a (jx i)), v2, v3, v4] m Q := A_iaload hB_L_law dL_law_1106
theorem dL_law_1107 : decode cL_law 1107 = .ok (.invokevirtual 130, 3) := by decide +kernel
theorem tL_law_1107 {d : Nat} {l0 l1 l2 l3 : Option Value} {v3 : Value} {y0 y1 : Value} {a : Nat} {m : jmM} {Q : Option Value → jmM → Prop} : AW d 289 1107 [l0, l1, l2, l3] [y0, y1, .ref a, v3] m Q ↔ (mS m a).1 = 12 ∧ CC d 286 [.ref a, y1, y0] m (jK d 289 1110 [l0, l1, l2, l3] [v3] Q) := A_callV hB_L_law dL_law_1107 hO_L_law fS_13_130 ⟨Nat.le_of_ble_eq_true rfl, Nat.le_of_ble_eq_true rfl⟩ rfl rfl rfl
theorem dL_law_1110 : decode cL_law 1110 = .ok (.if_icmp .eq 312, 3) := by decide +kernel
theorem tL_law_1110 {d : Nat} {l0 l1 l2 l3 : Option Value} {x y : Int32} {m : jmM} {Q : Option Value → jmM → Prop} : AW d 289 1110 [l0, l1, l2, l3] [.int y, .int x] m Q ↔ if x = y then AW d 289 1422 [l0, l1, l2, l3] [] m Q else AW d 289 1113 [l0, l1, l2, l3] [] m Q := A_icmp_eq hB_L_law dL_law_1110 (by decide)
theorem dL_law_1113 : decode cL_law 1113 = .ok (.iconst 0, 1) := by decide +kernel
theorem tL_law_1113 {d : Nat} {l0 l1 l2 l3 : Option Value} {m : jmM} {Q : Option Value → jmM → Prop} : AW d 289 1113 [l0, l1, l2, l3] [] m Q ↔ AW d 289 1114 [l0, l1, l2, l3] [.int 0] m Q := A_iconst hB_L_law dL_law_1113 (by decide)
theorem dL_law_1114 : decode cL_law 1114 = .ok (.ireturn, 1) := by decide +kernel
theorem tL_law_1114 {d : Nat} {l0 l1 l2 l3 : Option Value} {x : Int32} {m : jmM} {Q : Option Value → jmM → Prop} : AW d 289 1114 [l0, l1, l2, l3] [.int x] m Q ↔ jBool x ∧ Q (some (.int x)) m := A_zreturn hB_L_law dL_law_1114 hR_L_law
theorem dL_law_1115 : decode cL_law 1115 = .ok (.aload_n 1, 1) := by decide +kernel
theorem tL_law_1115 {d : Nat} {l0 l2 l3 : Option Value} {x : Nat} {m : jmM} {Q : Option Value → jmM → Prop} : AW d 289 1115 [l0, some (.ref x), l2, l3] [] m Q ↔ AW d 289 1116 [l0, some (.ref x), l2, l3] [.ref x] m Q := A_aload_n hB_L_law dL_law_1115 rfl
theorem dL_law_1116 : decode cL_law 1116 = .ok (.aload_n 0, 1) := by decide +kernel
theorem tL_law_1116 {d : Nat} {l1 l2 l3 : Option Value} {v0 : Value} {x : Nat} {m : jmM} {Q : Option Value → jmM → Prop} : AW d 289 1116 [some (.ref x), l1, l2, l3] [v0] m Q ↔ AW d 289 1117 [some (.ref x), l1, l2, l3] [.ref x, v0] m Q := A_aload_n hB_L_law dL_law_1116 rfl
theorem dL_law_1117 : decode cL_law 1117 = .ok (.iload_n 3, 1) := by decide +kernel
theorem tL_law_1117 {d : Nat} {l0 l1 l2 : Option Value} {v0 v1 : Value} {x : Int32} {m : jmM} {Q : Option Value → jmM → Prop} : AW d 289 1117 [l0, l1, l2, some (.int x)] [v0, v1] m Q ↔ AW d 289 1118 [l0, l1, l2, some (.int x)] [.int x, v0, v1] m Q := A_iload_n hB_L_law dL_law_1117 rfl
theorem dL_law_1118 : decode cL_law 1118 = .ok (.iconst 1, 1) := by decide +kernel
theorem tL_law_1118 {d : Nat} {l0 l1 l2 l3 : Option Value} {v0 v1 v2 : Value} {m : jmM} {Q : Option Value → jmM → Prop} : AW d 289 1118 [l0, l1, l2, l3] [v0, v1, v2] m Q ↔ AW d 289 1119 [l0, l1, l2, l3] [.int 1, v0, v1, v2] m Q := A_iconst hB_L_law dL_law_1118 (by decide)
theorem dL_law_1119 : decode cL_law 1119 = .ok (.iadd, 1) := by decide +kernel
theorem tL_law_1119 {d : Nat} {l0 l1 l2 l3 : Option Value} {v2 v3 : Value} {x y : Int32} {m : jmM} {Q : Option Value → jmM → Prop} : AW d 289 1119 [l0, l1, l2, l3] [.int y, .int x, v2, v3] m Q ↔ AW d 289 1120 [l0, l1, l2, l3] [.int (x + y), v2, v3] m Q := A_iadd hB_L_law dL_law_1119
theorem dL_law_1120 : decode cL_law 1120 = .ok (.iaload, 1) := by decide +kernel
theorem tL_law_1120 {d : Nat} {l0 l1 l2 l3 : Option Value} {v2 : Value} {i : Int32} {a : Nat} {m : jmM} {Q : Option Value → jmM → Prop} : AW d 289 1120 [l0, l1, l2, l3] [.int i, .ref a, v2] m Q ↔ (((mS m a).1 = 20 ∨ a = jScr) ∧ jIx i (mS m a).2) ∧ AW d 289 1121 [l0, l1, l2, l3] [.int (mI m a (jx i)), v2] m Q := A_iaload hB_L_law dL_law_1120
theorem dL_law_1121 : decode cL_law 1121 = .ok (.aload_n 0, 1) := by decide +kernel
theorem tL_law_1121 {d : Nat} {l1 l2 l3 : Option Value} {v0 v1 : Value} {x : Nat} {m : jmM} {Q : Option Value → jmM → Prop} : AW d 289 1121 [some (.ref x), l1, l2, l3] [v0, v1] m Q ↔ AW d 289 1122 [some (.ref x), l1, l2, l3] [.ref x, v0, v1] m Q := A_aload_n hB_L_law dL_law_1121 rfl
theorem dL_law_1122 : decode cL_law 1122 = .ok (.iload_n 3, 1) := by decide +kernel
theorem tL_law_1122 {d : Nat} {l0 l1 l2 : Option Value} {v0 v1 v2 : Value} {x : Int32} {m : jmM} {Q : Option Value → jmM → Prop} : AW d 289 1122 [l0, l1, l2, some (.int x)] [v0, v1, v2] m Q ↔ AW d 289 1123 [l0, l1, l2, some (.int x)] [.int x, v0, v1, v2] m Q := A_iload_n hB_L_law dL_law_1122 rfl
theorem dL_law_1123 : decode cL_law 1123 = .ok (.iconst 2, 1) := by decide +kernel
theorem tL_law_1123 {d : Nat} {l0 l1 l2 l3 : Option Value} {v0 v1 v2 v3 : Value} {m : jmM} {Q : Option Value → jmM → Prop} : AW d 289 1123 [l0, l1, l2, l3] [v0, v1, v2, v3] m Q ↔ AW d 289 1124 [l0, l1, l2, l3] [.int 2, v0, v1, v2, v3] m Q := A_iconst hB_L_law dL_law_1123 (by decide)
theorem dL_law_1124 : decode cL_law 1124 = .ok (.iadd, 1) := by decide +kernel
theorem tL_law_1124 {d : Nat} {l0 l1 l2 l3 : Option Value} {v2 v3 v4 : Value} {x y : Int32} {m : jmM} {Q : Option Value → jmM → Prop} : AW d 289 1124 [l0, l1, l2, l3] [.int y, .int x, v2, v3, v4] m Q ↔ AW d 289 1125 [l0, l1, l2, l3] [.int (x + y), v2, v3, v4] m Q := A_iadd hB_L_law dL_law_1124
theorem dL_law_1125 : decode cL_law 1125 = .ok (.iaload, 1) := by decide +kernel
theorem tL_law_1125 {d : Nat} {l0 l1 l2 l3 : Option Value} {v2 v3 : Value} {i : Int32} {a : Nat} {m : jmM} {Q : Option Value → jmM → Prop} : AW d 289 1125 [l0, l1, l2, l3] [.int i, .ref a, v2, v3] m Q ↔ (((mS m a).1 = 20 ∨ a = jScr) ∧ jIx i (mS m a).2) ∧ AW d 289 1126 [l0, l1, l2, l3] [.int (mI m a (jx i)), v2, v3] m Q := A_iaload hB_L_law dL_law_1125
theorem dL_law_1126 : decode cL_law 1126 = .ok (.invokevirtual 131, 3) := by decide +kernel
theorem tL_law_1126 {d : Nat} {l0 l1 l2 l3 : Option Value} {y0 y1 : Value} {a : Nat} {m : jmM} {Q : Option Value → jmM → Prop} : AW d 289 1126 [l0, l1, l2, l3] [y0, y1, .ref a] m Q ↔ (mS m a).1 = 11 ∧ CC d 168 [.ref a, y1, y0] m (jK d 289 1129 [l0, l1, l2, l3] [] Q) := A_callV hB_L_law dL_law_1126 hO_L_law fS_13_131 ⟨Nat.le_of_ble_eq_true rfl, Nat.le_of_ble_eq_true rfl⟩ rfl rfl rfl
theorem dL_law_1129 : decode cL_law 1129 = .ok (.aload_n 2, 1) := by decide +kernel
theorem tL_law_1129 {d : Nat} {l0 l1 l3 : Option Value} {v0 : Value} {x : Nat} {m : jmM} {Q : Option Value → jmM → Prop} : AW d 289 1129 [l0, l1, some (.ref x), l3] [v0] m Q ↔ AW d 289 1130 [l0, l1, some (.ref x), l3] [.ref x, v0] m Q := A_aload_n hB_L_law dL_law_1129 rfl
theorem dL_law_1130 : decode cL_law 1130 = .ok (.aload_n 0, 1) := by decide +kernel
theorem tL_law_1130 {d : Nat} {l1 l2 l3 : Option Value} {v0 v1 : Value} {x : Nat} {m : jmM} {Q : Option Value → jmM → Prop} : AW d 289 1130 [some (.ref x), l1, l2, l3] [v0, v1] m Q ↔ AW d 289 1131 [some (.ref x), l1, l2, l3] [.ref x, v0, v1] m Q := A_aload_n hB_L_law dL_law_1130 rfl
theorem dL_law_1131 : decode cL_law 1131 = .ok (.iload_n 3, 1) := by decide +kernel
theorem tL_law_1131 {d : Nat} {l0 l1 l2 : Option Value} {v0 v1 v2 : Value} {x : Int32} {m : jmM} {Q : Option Value → jmM → Prop} : AW d 289 1131 [l0, l1, l2, some (.int x)] [v0, v1, v2] m Q ↔ AW d 289 1132 [l0, l1, l2, some (.int x)] [.int x, v0, v1, v2] m Q := A_iload_n hB_L_law dL_law_1131 rfl
theorem dL_law_1132 : decode cL_law 1132 = .ok (.iconst 1, 1) := by decide +kernel
theorem tL_law_1132 {d : Nat} {l0 l1 l2 l3 : Option Value} {v0 v1 v2 v3 : Value} {m : jmM} {Q : Option Value → jmM → Prop} : AW d 289 1132 [l0, l1, l2, l3] [v0, v1, v2, v3] m Q ↔ AW d 289 1133 [l0, l1, l2, l3] [.int 1, v0, v1, v2, v3] m Q := A_iconst hB_L_law dL_law_1132 (by decide)
theorem dL_law_1133 : decode cL_law 1133 = .ok (.iadd, 1) := by decide +kernel
theorem tL_law_1133 {d : Nat} {l0 l1 l2 l3 : Option Value} {v2 v3 v4 : Value} {x y : Int32} {m : jmM} {Q : Option Value → jmM → Prop} : AW d 289 1133 [l0, l1, l2, l3] [.int y, .int x, v2, v3, v4] m Q ↔ AW d 289 1134 [l0, l1, l2, l3] [.int (x + y), v2, v3, v4] m Q := A_iadd hB_L_law dL_law_1133
theorem dL_law_1134 : decode cL_law 1134 = .ok (.iaload, 1) := by decide +kernel
theorem tL_law_1134 {d : Nat} {l0 l1 l2 l3 : Option Value} {v2 v3 : Value} {i : Int32} {a : Nat} {m : jmM} {Q : Option Value → jmM → Prop} : AW d 289 1134 [l0, l1, l2, l3] [.int i, .ref a, v2, v3] m Q ↔ (((mS m a).1 = 20 ∨ a = jScr) ∧ jIx i (mS m a).2) ∧ AW d 289 1135 [l0, l1, l2, l3] [.int (mI m a (jx i)), v2, v3] m Q := A_iaload hB_L_law dL_law_1134
theorem dL_law_1135 : decode cL_law 1135 = .ok (.aload_n 0, 1) := by decide +kernel
theorem tL_law_1135 {d : Nat} {l1 l2 l3 : Option Value} {v0 v1 v2 : Value} {x : Nat} {m : jmM} {Q : Option Value → jmM → Prop} : AW d 289 1135 [some (.ref x), l1, l2, l3] [v0, v1, v2] m Q ↔ AW d 289 1136 [some (.ref x), l1, l2, l3] [.ref x, v0, v1, v2] m Q := A_aload_n hB_L_law dL_law_1135 rfl
theorem dL_law_1136 : decode cL_law 1136 = .ok (.iload_n 3, 1) := by decide +kernel
theorem tL_law_1136 {d : Nat} {l0 l1 l2 : Option Value} {v0 v1 v2 v3 : Value} {x : Int32} {m : jmM} {Q : Option Value → jmM → Prop} : AW d 289 1136 [l0, l1, l2, some (.int x)] [v0, v1, v2, v3] m Q ↔ AW d 289 1137 [l0, l1, l2, some (.int x)] [.int x, v0, v1, v2, v3] m Q := A_iload_n hB_L_law dL_law_1136 rfl
theorem dL_law_1137 : decode cL_law 1137 = .ok (.iconst 2, 1) := by decide +kernel
theorem tL_law_1137 {d : Nat} {l0 l1 l2 l3 : Option Value} {v0 v1 v2 v3 v4 : Value} {m : jmM} {Q : Option Value → jmM → Prop} : AW d 289 1137 [l0, l1, l2, l3] [v0, v1, v2, v3, v4] m Q ↔ AW d 289 1138 [l0, l1, l2, l3] [.int 2, v0, v1, v2, v3, v4] m Q := A_iconst hB_L_law dL_law_1137 (by decide)
theorem dL_law_1138 : decode cL_law 1138 = .ok (.iadd, 1) := by decide +kernel
theorem tL_law_1138 {d : Nat} {l0 l1 l2 l3 : Option Value} {v2 v3 v4 v5 : Value} {x y : Int32} {m : jmM} {Q : Option Value → jmM → Prop} : AW d 289 1138 [l0, l1, l2, l3] [.int y, .int x, v2, v3, v4, v5] m Q ↔ AW d 289 1139 [l0, l1, l2, l3] [.int (x + y), v2, v3, v4, v5] m Q := A_iadd hB_L_law dL_law_1138
theorem dL_law_1139 : decode cL_law 1139 = .ok (.iaload, 1) := by decide +kernel
theorem tL_law_1139 {d : Nat} {l0 l1 l2 l3 : Option Value} {v2 v3 v4 : Value} {i : Int32} {a : Nat} {m : jmM} {Q : Option Value → jmM → Prop} : AW d 289 1139 [l0, l1, l2, l3] [.int i, .ref a, v2, v3, v4] m Q ↔ (((mS m a).1 = 20 ∨ a = jScr) ∧ jIx i (mS m a).2) ∧ AW d 289 1140 [l0, l1, l2, l3] [.int (mI m a (jx i)), v2, v3, v4] m Q := A_iaload hB_L_law dL_law_1139
theorem dL_law_1140 : decode cL_law 1140 = .ok (.invokevirtual 134, 3) := by decide +kernel
theorem tL_law_1140 {d : Nat} {l0 l1 l2 l3 : Option Value} {v3 : Value} {y0 y1 : Value} {a : Nat} {m : jmM} {Q : Option Value → jmM → Prop} : AW d 289 1140 [l0, l1, l2, l3] [y0, y1, .ref a, v3] m Q ↔ (mS m a).1 = 12 ∧ CC d 288 [.ref a, y1, y0] m (jK d 289 1143 [l0, l1, l2, l3] [v3] Q) := A_callV hB_L_law dL_law_1140 hO_L_law fS_13_134 ⟨Nat.le_of_ble_eq_true rfl, Nat.le_of_ble_eq_true rfl⟩ rfl rfl rfl
theorem dL_law_1143 : decode cL_law 1143 = .ok (.if_icmp .eq 279, 3) := by decide +kernel
theorem tL_law_1143 {d : Nat} {l0 l1 l2 l3 : Option Value} {x y : Int32} {m : jmM} {Q : Option Value → jmM → Prop} : AW d 289 1143 [l0, l1, l2, l3] [.int y, .int x] m Q ↔ if x = y then AW d 289 1422 [l0, l1, l2, l3] [] m Q else AW d 289 1146 [l0, l1, l2, l3] [] m Q := A_icmp_eq hB_L_law dL_law_1143 (by decide)
theorem dL_law_1146 : decode cL_law 1146 = .ok (.iconst 0, 1) := by decide +kernel
theorem tL_law_1146 {d : Nat} {l0 l1 l2 l3 : Option Value} {m : jmM} {Q : Option Value → jmM → Prop} : AW d 289 1146 [l0, l1, l2, l3] [] m Q ↔ AW d 289 1147 [l0, l1, l2, l3] [.int 0] m Q := A_iconst hB_L_law dL_law_1146 (by decide)
theorem dL_law_1147 : decode cL_law 1147 = .ok (.ireturn, 1) := by decide +kernel
theorem tL_law_1147 {d : Nat} {l0 l1 l2 l3 : Option Value} {x : Int32} {m : jmM} {Q : Option Value → jmM → Prop} : AW d 289 1147 [l0, l1, l2, l3] [.int x] m Q ↔ jBool x ∧ Q (some (.int x)) m := A_zreturn hB_L_law dL_law_1147 hR_L_law
theorem dL_law_1148 : decode cL_law 1148 = .ok (.aload_n 1, 1) := by decide +kernel
theorem tL_law_1148 {d : Nat} {l0 l2 l3 : Option Value} {x : Nat} {m : jmM} {Q : Option Value → jmM → Prop} : AW d 289 1148 [l0, some (.ref x), l2, l3] [] m Q ↔ AW d 289 1149 [l0, some (.ref x), l2, l3] [.ref x] m Q := A_aload_n hB_L_law dL_law_1148 rfl
theorem dL_law_1149 : decode cL_law 1149 = .ok (.aload_n 0, 1) := by decide +kernel
theorem tL_law_1149 {d : Nat} {l1 l2 l3 : Option Value} {v0 : Value} {x : Nat} {m : jmM} {Q : Option Value → jmM → Prop} : AW d 289 1149 [some (.ref x), l1, l2, l3] [v0] m Q ↔ AW d 289 1150 [some (.ref x), l1, l2, l3] [.ref x, v0] m Q := A_aload_n hB_L_law dL_law_1149 rfl
theorem dL_law_1150 : decode cL_law 1150 = .ok (.iload_n 3, 1) := by decide +kernel
theorem tL_law_1150 {d : Nat} {l0 l1 l2 : Option Value} {v0 v1 : Value} {x : Int32} {m : jmM} {Q : Option Value → jmM → Prop} : AW d 289 1150 [l0, l1, l2, some (.int x)] [v0, v1] m Q ↔ AW d 289 1151 [l0, l1, l2, some (.int x)] [.int x, v0, v1] m Q := A_iload_n hB_L_law dL_law_1150 rfl
theorem dL_law_1151 : decode cL_law 1151 = .ok (.iconst 1, 1) := by decide +kernel
theorem tL_law_1151 {d : Nat} {l0 l1 l2 l3 : Option Value} {v0 v1 v2 : Value} {m : jmM} {Q : Option Value → jmM → Prop} : AW d 289 1151 [l0, l1, l2, l3] [v0, v1, v2] m Q ↔ AW d 289 1152 [l0, l1, l2, l3] [.int 1, v0, v1, v2] m Q := A_iconst hB_L_law dL_law_1151 (by decide)
theorem dL_law_1152 : decode cL_law 1152 = .ok (.iadd, 1) := by decide +kernel
theorem tL_law_1152 {d : Nat} {l0 l1 l2 l3 : Option Value} {v2 v3 : Value} {x y : Int32} {m : jmM} {Q : Option Value → jmM → Prop} : AW d 289 1152 [l0, l1, l2, l3] [.int y, .int x, v2, v3] m Q ↔ AW d 289 1153 [l0, l1, l2, l3] [.int (x + y), v2, v3] m Q := A_iadd hB_L_law dL_law_1152
theorem dL_law_1153 : decode cL_law 1153 = .ok (.iaload, 1) := by decide +kernel
theorem tL_law_1153 {d : Nat} {l0 l1 l2 l3 : Option Value} {v2 : Value} {i : Int32} {a : Nat} {m : jmM} {Q : Option Value → jmM → Prop} : AW d 289 1153 [l0, l1, l2, l3] [.int i, .ref a, v2] m Q ↔ (((mS m a).1 = 20 ∨ a = jScr) ∧ jIx i (mS m a).2) ∧ AW d 289 1154 [l0, l1, l2, l3] [.int (mI m a (jx i)), v2] m Q := A_iaload hB_L_law dL_law_1153
theorem dL_law_1154 : decode cL_law 1154 = .ok (.aload_n 0, 1) := by decide +kernel
theorem tL_law_1154 {d : Nat} {l1 l2 l3 : Option Value} {v0 v1 : Value} {x : Nat} {m : jmM} {Q : Option Value → jmM → Prop} : AW d 289 1154 [some (.ref x), l1, l2, l3] [v0, v1] m Q ↔ AW d 289 1155 [some (.ref x), l1, l2, l3] [.ref x, v0, v1] m Q := A_aload_n hB_L_law dL_law_1154 rfl
theorem dL_law_1155 : decode cL_law 1155 = .ok (.iload_n 3, 1) := by decide +kernel
theorem tL_law_1155 {d : Nat} {l0 l1 l2 : Option Value} {v0 v1 v2 : Value} {x : Int32} {m : jmM} {Q : Option Value → jmM → Prop} : AW d 289 1155 [l0, l1, l2, some (.int x)] [v0, v1, v2] m Q ↔ AW d 289 1156 [l0, l1, l2, some (.int x)] [.int x, v0, v1, v2] m Q := A_iload_n hB_L_law dL_law_1155 rfl
theorem dL_law_1156 : decode cL_law 1156 = .ok (.iconst 2, 1) := by decide +kernel
theorem tL_law_1156 {d : Nat} {l0 l1 l2 l3 : Option Value} {v0 v1 v2 v3 : Value} {m : jmM} {Q : Option Value → jmM → Prop} : AW d 289 1156 [l0, l1, l2, l3] [v0, v1, v2, v3] m Q ↔ AW d 289 1157 [l0, l1, l2, l3] [.int 2, v0, v1, v2, v3] m Q := A_iconst hB_L_law dL_law_1156 (by decide)
theorem dL_law_1157 : decode cL_law 1157 = .ok (.iadd, 1) := by decide +kernel
theorem tL_law_1157 {d : Nat} {l0 l1 l2 l3 : Option Value} {v2 v3 v4 : Value} {x y : Int32} {m : jmM} {Q : Option Value → jmM → Prop} : AW d 289 1157 [l0, l1, l2, l3] [.int y, .int x, v2, v3, v4] m Q ↔ AW d 289 1158 [l0, l1, l2, l3] [.int (x + y), v2, v3, v4] m Q := A_iadd hB_L_law dL_law_1157
theorem dL_law_1158 : decode cL_law 1158 = .ok (.iaload, 1) := by decide +kernel
theorem tL_law_1158 {d : Nat} {l0 l1 l2 l3 : Option Value} {v2 v3 : Value} {i : Int32} {a : Nat} {m : jmM} {Q : Option Value → jmM → Prop} : AW d 289 1158 [l0, l1, l2, l3] [.int i, .ref a, v2, v3] m Q ↔ (((mS m a).1 = 20 ∨ a = jScr) ∧ jIx i (mS m a).2) ∧ AW d 289 1159 [l0, l1, l2, l3] [.int (mI m a (jx i)), v2, v3] m Q := A_iaload hB_L_law dL_law_1158
theorem dL_law_1159 : decode cL_law 1159 = .ok (.invokevirtual 135, 3) := by decide +kernel
theorem tL_law_1159 {d : Nat} {l0 l1 l2 l3 : Option Value} {y0 y1 : Value} {a : Nat} {m : jmM} {Q : Option Value → jmM → Prop} : AW d 289 1159 [l0, l1, l2, l3] [y0, y1, .ref a] m Q ↔ (mS m a).1 = 11 ∧ CC d 169 [.ref a, y1, y0] m (jK d 289 1162 [l0, l1, l2, l3] [] Q) := A_callV hB_L_law dL_law_1159 hO_L_law fS_13_135 ⟨Nat.le_of_ble_eq_true rfl, Nat.le_of_ble_eq_true rfl⟩ rfl rfl rfl
theorem dL_law_1162 : decode cL_law 1162 = .ok (.aload_n 2, 1) := by decide +kernel
theorem tL_law_1162 {d : Nat} {l0 l1 l3 : Option Value} {v0 : Value} {x : Nat} {m : jmM} {Q : Option Value → jmM → Prop} : AW d 289 1162 [l0, l1, some (.ref x), l3] [v0] m Q ↔ AW d 289 1163 [l0, l1, some (.ref x), l3] [.ref x, v0] m Q := A_aload_n hB_L_law dL_law_1162 rfl
theorem dL_law_1163 : decode cL_law 1163 = .ok (.aload_n 0, 1) := by decide +kernel
theorem tL_law_1163 {d : Nat} {l1 l2 l3 : Option Value} {v0 v1 : Value} {x : Nat} {m : jmM} {Q : Option Value → jmM → Prop} : AW d 289 1163 [some (.ref x), l1, l2, l3] [v0, v1] m Q ↔ AW d 289 1164 [some (.ref x), l1, l2, l3] [.ref x, v0, v1] m Q := A_aload_n hB_L_law dL_law_1163 rfl
theorem dL_law_1164 : decode cL_law 1164 = .ok (.iload_n 3, 1) := by decide +kernel
theorem tL_law_1164 {d : Nat} {l0 l1 l2 : Option Value} {v0 v1 v2 : Value} {x : Int32} {m : jmM} {Q : Option Value → jmM → Prop} : AW d 289 1164 [l0, l1, l2, some (.int x)] [v0, v1, v2] m Q ↔ AW d 289 1165 [l0, l1, l2, some (.int x)] [.int x, v0, v1, v2] m Q := A_iload_n hB_L_law dL_law_1164 rfl
theorem dL_law_1165 : decode cL_law 1165 = .ok (.iconst 1, 1) := by decide +kernel
theorem tL_law_1165 {d : Nat} {l0 l1 l2 l3 : Option Value} {v0 v1 v2 v3 : Value} {m : jmM} {Q : Option Value → jmM → Prop} : AW d 289 1165 [l0, l1, l2, l3] [v0, v1, v2, v3] m Q ↔ AW d 289 1166 [l0, l1, l2, l3] [.int 1, v0, v1, v2, v3] m Q := A_iconst hB_L_law dL_law_1165 (by decide)
theorem dL_law_1166 : decode cL_law 1166 = .ok (.iadd, 1) := by decide +kernel
theorem tL_law_1166 {d : Nat} {l0 l1 l2 l3 : Option Value} {v2 v3 v4 : Value} {x y : Int32} {m : jmM} {Q : Option Value → jmM → Prop} : AW d 289 1166 [l0, l1, l2, l3] [.int y, .int x, v2, v3, v4] m Q ↔ AW d 289 1167 [l0, l1, l2, l3] [.int (x + y), v2, v3, v4] m Q := A_iadd hB_L_law dL_law_1166
theorem dL_law_1167 : decode cL_law 1167 = .ok (.iaload, 1) := by decide +kernel
theorem tL_law_1167 {d : Nat} {l0 l1 l2 l3 : Option Value} {v2 v3 : Value} {i : Int32} {a : Nat} {m : jmM} {Q : Option Value → jmM → Prop} : AW d 289 1167 [l0, l1, l2, l3] [.int i, .ref a, v2, v3] m Q ↔ (((mS m a).1 = 20 ∨ a = jScr) ∧ jIx i (mS m a).2) ∧ AW d 289 1168 [l0, l1, l2, l3] [.int (mI m a (jx i)), v2, v3] m Q := A_iaload hB_L_law dL_law_1167
theorem dL_law_1168 : decode cL_law 1168 = .ok (.aload_n 0, 1) := by decide +kernel
theorem tL_law_1168 {d : Nat} {l1 l2 l3 : Option Value} {v0 v1 v2 : Value} {x : Nat} {m : jmM} {Q : Option Value → jmM → Prop} : AW d 289 1168 [some (.ref x), l1, l2, l3] [v0, v1, v2] m Q ↔ AW d 289 1169 [some (.ref x), l1, l2, l3] [.ref x, v0, v1, v2] m Q := A_aload_n hB_L_law dL_law_1168 rfl
theorem dL_law_1169 : decode cL_law 1169 = .ok (.iload_n 3, 1) := by decide +kernel
theorem tL_law_1169 {d : Nat} {l0 l1 l2 : Option Value} {v0 v1 v2 v3 : Value} {x : Int32} {m : jmM} {Q : Option Value → jmM → Prop} : AW d 289 1169 [l0, l1, l2, some (.int x)] [v0, v1, v2, v3] m Q ↔ AW d 289 1170 [l0, l1, l2, some (.int x)] [.int x, v0, v1, v2, v3] m Q := A_iload_n hB_L_law dL_law_1169 rfl
theorem dL_law_1170 : decode cL_law 1170 = .ok (.iconst 2, 1) := by decide +kernel
theorem tL_law_1170 {d : Nat} {l0 l1 l2 l3 : Option Value} {v0 v1 v2 v3 v4 : Value} {m : jmM} {Q : Option Value → jmM → Prop} : AW d 289 1170 [l0, l1, l2, l3] [v0, v1, v2, v3, v4] m Q ↔ AW d 289 1171 [l0, l1, l2, l3] [.int 2, v0, v1, v2, v3, v4] m Q := A_iconst hB_L_law dL_law_1170 (by decide)
theorem dL_law_1171 : decode cL_law 1171 = .ok (.iadd, 1) := by decide +kernel
theorem tL_law_1171 {d : Nat} {l0 l1 l2 l3 : Option Value} {v2 v3 v4 v5 : Value} {x y : Int32} {m : jmM} {Q : Option Value → jmM → Prop} : AW d 289 1171 [l0, l1, l2, l3] [.int y, .int x, v2, v3, v4, v5] m Q ↔ AW d 289 1172 [l0, l1, l2, l3] [.int (x + y), v2, v3, v4, v5] m Q := A_iadd hB_L_law dL_law_1171
theorem dL_law_1172 : decode cL_law 1172 = .ok (.iaload, 1) := by decide +kernel
theorem tL_law_1172 {d : Nat} {l0 l1 l2 l3 : Option Value} {v2 v3 v4 : Value} {i : Int32} {a : Nat} {m : jmM} {Q : Option Value → jmM → Prop} : AW d 289 1172 [l0, l1, l2, l3] [.int i, .ref a, v2, v3, v4] m Q ↔ (((mS m a).1 = 20 ∨ a = jScr) ∧ jIx i (mS m a).2) ∧ AW d 289 1173 [l0, l1, l2, l3] [.int (mI m a (jx i)), v2, v3, v4] m Q := A_iaload hB_L_law dL_law_1172
theorem dL_law_1173 : decode cL_law 1173 = .ok (.invokevirtual 138, 3) := by decide +kernel
theorem tL_law_1173 {d : Nat} {l0 l1 l2 l3 : Option Value} {v3 : Value} {y0 y1 : Value} {a : Nat} {m : jmM} {Q : Option Value → jmM → Prop} : AW d 289 1173 [l0, l1, l2, l3] [y0, y1, .ref a, v3] m Q ↔ (mS m a).1 = 12 ∧ CC d 264 [.ref a, y1, y0] m (jK d 289 1176 [l0, l1, l2, l3] [v3] Q) := A_callV hB_L_law dL_law_1173 hO_L_law fS_13_138 ⟨Nat.le_of_ble_eq_true rfl, Nat.le_of_ble_eq_true rfl⟩ rfl rfl rfl
theorem dL_law_1176 : decode cL_law 1176 = .ok (.if_icmp .eq 246, 3) := by decide +kernel
theorem tL_law_1176 {d : Nat} {l0 l1 l2 l3 : Option Value} {x y : Int32} {m : jmM} {Q : Option Value → jmM → Prop} : AW d 289 1176 [l0, l1, l2, l3] [.int y, .int x] m Q ↔ if x = y then AW d 289 1422 [l0, l1, l2, l3] [] m Q else AW d 289 1179 [l0, l1, l2, l3] [] m Q := A_icmp_eq hB_L_law dL_law_1176 (by decide)
theorem dL_law_1179 : decode cL_law 1179 = .ok (.iconst 0, 1) := by decide +kernel
theorem tL_law_1179 {d : Nat} {l0 l1 l2 l3 : Option Value} {m : jmM} {Q : Option Value → jmM → Prop} : AW d 289 1179 [l0, l1, l2, l3] [] m Q ↔ AW d 289 1180 [l0, l1, l2, l3] [.int 0] m Q := A_iconst hB_L_law dL_law_1179 (by decide)
theorem dL_law_1180 : decode cL_law 1180 = .ok (.ireturn, 1) := by decide +kernel
theorem tL_law_1180 {d : Nat} {l0 l1 l2 l3 : Option Value} {x : Int32} {m : jmM} {Q : Option Value → jmM → Prop} : AW d 289 1180 [l0, l1, l2, l3] [.int x] m Q ↔ jBool x ∧ Q (some (.int x)) m := A_zreturn hB_L_law dL_law_1180 hR_L_law
theorem dL_law_1181 : decode cL_law 1181 = .ok (.aload_n 1, 1) := by decide +kernel
theorem tL_law_1181 {d : Nat} {l0 l2 l3 : Option Value} {x : Nat} {m : jmM} {Q : Option Value → jmM → Prop} : AW d 289 1181 [l0, some (.ref x), l2, l3] [] m Q ↔ AW d 289 1182 [l0, some (.ref x), l2, l3] [.ref x] m Q := A_aload_n hB_L_law dL_law_1181 rfl
theorem dL_law_1182 : decode cL_law 1182 = .ok (.aload_n 0, 1) := by decide +kernel
theorem tL_law_1182 {d : Nat} {l1 l2 l3 : Option Value} {v0 : Value} {x : Nat} {m : jmM} {Q : Option Value → jmM → Prop} : AW d 289 1182 [some (.ref x), l1, l2, l3] [v0] m Q ↔ AW d 289 1183 [some (.ref x), l1, l2, l3] [.ref x, v0] m Q := A_aload_n hB_L_law dL_law_1182 rfl
theorem dL_law_1183 : decode cL_law 1183 = .ok (.iload_n 3, 1) := by decide +kernel
theorem tL_law_1183 {d : Nat} {l0 l1 l2 : Option Value} {v0 v1 : Value} {x : Int32} {m : jmM} {Q : Option Value → jmM → Prop} : AW d 289 1183 [l0, l1, l2, some (.int x)] [v0, v1] m Q ↔ AW d 289 1184 [l0, l1, l2, some (.int x)] [.int x, v0, v1] m Q := A_iload_n hB_L_law dL_law_1183 rfl
theorem dL_law_1184 : decode cL_law 1184 = .ok (.iconst 1, 1) := by decide +kernel
theorem tL_law_1184 {d : Nat} {l0 l1 l2 l3 : Option Value} {v0 v1 v2 : Value} {m : jmM} {Q : Option Value → jmM → Prop} : AW d 289 1184 [l0, l1, l2, l3] [v0, v1, v2] m Q ↔ AW d 289 1185 [l0, l1, l2, l3] [.int 1, v0, v1, v2] m Q := A_iconst hB_L_law dL_law_1184 (by decide)
theorem dL_law_1185 : decode cL_law 1185 = .ok (.iadd, 1) := by decide +kernel
theorem tL_law_1185 {d : Nat} {l0 l1 l2 l3 : Option Value} {v2 v3 : Value} {x y : Int32} {m : jmM} {Q : Option Value → jmM → Prop} : AW d 289 1185 [l0, l1, l2, l3] [.int y, .int x, v2, v3] m Q ↔ AW d 289 1186 [l0, l1, l2, l3] [.int (x + y), v2, v3] m Q := A_iadd hB_L_law dL_law_1185
theorem dL_law_1186 : decode cL_law 1186 = .ok (.iaload, 1) := by decide +kernel
theorem tL_law_1186 {d : Nat} {l0 l1 l2 l3 : Option Value} {v2 : Value} {i : Int32} {a : Nat} {m : jmM} {Q : Option Value → jmM → Prop} : AW d 289 1186 [l0, l1, l2, l3] [.int i, .ref a, v2] m Q ↔ (((mS m a).1 = 20 ∨ a = jScr) ∧ jIx i (mS m a).2) ∧ AW d 289 1187 [l0, l1, l2, l3] [.int (mI m a (jx i)), v2] m Q := A_iaload hB_L_law dL_law_1186
theorem dL_law_1187 : decode cL_law 1187 = .ok (.aload_n 0, 1) := by decide +kernel
theorem tL_law_1187 {d : Nat} {l1 l2 l3 : Option Value} {v0 v1 : Value} {x : Nat} {m : jmM} {Q : Option Value → jmM → Prop} : AW d 289 1187 [some (.ref x), l1, l2, l3] [v0, v1] m Q ↔ AW d 289 1188 [some (.ref x), l1, l2, l3] [.ref x, v0, v1] m Q := A_aload_n hB_L_law dL_law_1187 rfl
theorem dL_law_1188 : decode cL_law 1188 = .ok (.iload_n 3, 1) := by decide +kernel
theorem tL_law_1188 {d : Nat} {l0 l1 l2 : Option Value} {v0 v1 v2 : Value} {x : Int32} {m : jmM} {Q : Option Value → jmM → Prop} : AW d 289 1188 [l0, l1, l2, some (.int x)] [v0, v1, v2] m Q ↔ AW d 289 1189 [l0, l1, l2, some (.int x)] [.int x, v0, v1, v2] m Q := A_iload_n hB_L_law dL_law_1188 rfl
theorem dL_law_1189 : decode cL_law 1189 = .ok (.iconst 2, 1) := by decide +kernel
theorem tL_law_1189 {d : Nat} {l0 l1 l2 l3 : Option Value} {v0 v1 v2 v3 : Value} {m : jmM} {Q : Option Value → jmM → Prop} : AW d 289 1189 [l0, l1, l2, l3] [v0, v1, v2, v3] m Q ↔ AW d 289 1190 [l0, l1, l2, l3] [.int 2, v0, v1, v2, v3] m Q := A_iconst hB_L_law dL_law_1189 (by decide)
theorem dL_law_1190 : decode cL_law 1190 = .ok (.iadd, 1) := by decide +kernel
theorem tL_law_1190 {d : Nat} {l0 l1 l2 l3 : Option Value} {v2 v3 v4 : Value} {x y : Int32} {m : jmM} {Q : Option Value → jmM → Prop} : AW d 289 1190 [l0, l1, l2, l3] [.int y, .int x, v2, v3, v4] m Q ↔ AW d 289 1191 [l0, l1, l2, l3] [.int (x + y), v2, v3, v4] m Q := A_iadd hB_L_law dL_law_1190
theorem dL_law_1191 : decode cL_law 1191 = .ok (.iaload, 1) := by decide +kernel
theorem tL_law_1191 {d : Nat} {l0 l1 l2 l3 : Option Value} {v2 v3 : Value} {i : Int32} {a : Nat} {m : jmM} {Q : Option Value → jmM → Prop} : AW d 289 1191 [l0, l1, l2, l3] [.int i, .ref a, v2, v3] m Q ↔ (((mS m a).1 = 20 ∨ a = jScr) ∧ jIx i (mS m a).2) ∧ AW d 289 1192 [l0, l1, l2, l3] [.int (mI m a (jx i)), v2, v3] m Q := A_iaload hB_L_law dL_law_1191
theorem dL_law_1192 : decode cL_law 1192 = .ok (.invokevirtual 139, 3) := by decide +kernel
theorem tL_law_1192 {d : Nat} {l0 l1 l2 l3 : Option Value} {y0 y1 : Value} {a : Nat} {m : jmM} {Q : Option Value → jmM → Prop} : AW d 289 1192 [l0, l1, l2, l3] [y0, y1, .ref a] m Q ↔ (mS m a).1 = 11 ∧ CC d 170 [.ref a, y1, y0] m (jK d 289 1195 [l0, l1, l2, l3] [] Q) := A_callV hB_L_law dL_law_1192 hO_L_law fS_13_139 ⟨Nat.le_of_ble_eq_true rfl, Nat.le_of_ble_eq_true rfl⟩ rfl rfl rfl
theorem dL_law_1195 : decode cL_law 1195 = .ok (.aload_n 2, 1) := by decide +kernel
theorem tL_law_1195 {d : Nat} {l0 l1 l3 : Option Value} {v0 : Value} {x : Nat} {m : jmM} {Q : Option Value → jmM → Prop} : AW d 289 1195 [l0, l1, some (.ref x), l3] [v0] m Q ↔ AW d 289 1196 [l0, l1, some (.ref x), l3] [.ref x, v0] m Q := A_aload_n hB_L_law dL_law_1195 rfl
theorem dL_law_1196 : decode cL_law 1196 = .ok (.aload_n 0, 1) := by decide +kernel
theorem tL_law_1196 {d : Nat} {l1 l2 l3 : Option Value} {v0 v1 : Value} {x : Nat} {m : jmM} {Q : Option Value → jmM → Prop} : AW d 289 1196 [some (.ref x), l1, l2, l3] [v0, v1] m Q ↔ AW d 289 1197 [some (.ref x), l1, l2, l3] [.ref x, v0, v1] m Q := A_aload_n hB_L_law dL_law_1196 rfl
theorem dL_law_1197 : decode cL_law 1197 = .ok (.iload_n 3, 1) := by decide +kernel
theorem tL_law_1197 {d : Nat} {l0 l1 l2 : Option Value} {v0 v1 v2 : Value} {x : Int32} {m : jmM} {Q : Option Value → jmM → Prop} : AW d 289 1197 [l0, l1, l2, some (.int x)] [v0, v1, v2] m Q ↔ AW d 289 1198 [l0, l1, l2, some (.int x)] [.int x, v0, v1, v2] m Q := A_iload_n hB_L_law dL_law_1197 rfl
theorem dL_law_1198 : decode cL_law 1198 = .ok (.iconst 1, 1) := by decide +kernel
theorem tL_law_1198 {d : Nat} {l0 l1 l2 l3 : Option Value} {v0 v1 v2 v3 : Value} {m : jmM} {Q : Option Value → jmM → Prop} : AW d 289 1198 [l0, l1, l2, l3] [v0, v1, v2, v3] m Q ↔ AW d 289 1199 [l0, l1, l2, l3] [.int 1, v0, v1, v2, v3] m Q := A_iconst hB_L_law dL_law_1198 (by decide)
theorem dL_law_1199 : decode cL_law 1199 = .ok (.iadd, 1) := by decide +kernel
theorem tL_law_1199 {d : Nat} {l0 l1 l2 l3 : Option Value} {v2 v3 v4 : Value} {x y : Int32} {m : jmM} {Q : Option Value → jmM → Prop} : AW d 289 1199 [l0, l1, l2, l3] [.int y, .int x, v2, v3, v4] m Q ↔ AW d 289 1200 [l0, l1, l2, l3] [.int (x + y), v2, v3, v4] m Q := A_iadd hB_L_law dL_law_1199
theorem dL_law_1200 : decode cL_law 1200 = .ok (.iaload, 1) := by decide +kernel
theorem tL_law_1200 {d : Nat} {l0 l1 l2 l3 : Option Value} {v2 v3 : Value} {i : Int32} {a : Nat} {m : jmM} {Q : Option Value → jmM → Prop} : AW d 289 1200 [l0, l1, l2, l3] [.int i, .ref a, v2, v3] m Q ↔ (((mS m a).1 = 20 ∨ a = jScr) ∧ jIx i (mS m a).2) ∧ AW d 289 1201 [l0, l1, l2, l3] [.int (mI m a (jx i)), v2, v3] m Q := A_iaload hB_L_law dL_law_1200
theorem dL_law_1201 : decode cL_law 1201 = .ok (.aload_n 0, 1) := by decide +kernel
theorem tL_law_1201 {d : Nat} {l1 l2 l3 : Option Value} {v0 v1 v2 : Value} {x : Nat} {m : jmM} {Q : Option Value → jmM → Prop} : AW d 289 1201 [some (.ref x), l1, l2, l3] [v0, v1, v2] m Q ↔ AW d 289 1202 [some (.ref x), l1, l2, l3] [.ref x, v0, v1, v2] m Q := A_aload_n hB_L_law dL_law_1201 rfl
theorem dL_law_1202 : decode cL_law 1202 = .ok (.iload_n 3, 1) := by decide +kernel
theorem tL_law_1202 {d : Nat} {l0 l1 l2 : Option Value} {v0 v1 v2 v3 : Value} {x : Int32} {m : jmM} {Q : Option Value → jmM → Prop} : AW d 289 1202 [l0, l1, l2, some (.int x)] [v0, v1, v2, v3] m Q ↔ AW d 289 1203 [l0, l1, l2, some (.int x)] [.int x, v0, v1, v2, v3] m Q := A_iload_n hB_L_law dL_law_1202 rfl
theorem dL_law_1203 : decode cL_law 1203 = .ok (.iconst 2, 1) := by decide +kernel
theorem tL_law_1203 {d : Nat} {l0 l1 l2 l3 : Option Value} {v0 v1 v2 v3 v4 : Value} {m : jmM} {Q : Option Value → jmM → Prop} : AW d 289 1203 [l0, l1, l2, l3] [v0, v1, v2, v3, v4] m Q ↔ AW d 289 1204 [l0, l1, l2, l3] [.int 2, v0, v1, v2, v3, v4] m Q := A_iconst hB_L_law dL_law_1203 (by decide)
theorem dL_law_1204 : decode cL_law 1204 = .ok (.iadd, 1) := by decide +kernel
theorem tL_law_1204 {d : Nat} {l0 l1 l2 l3 : Option Value} {v2 v3 v4 v5 : Value} {x y : Int32} {m : jmM} {Q : Option Value → jmM → Prop} : AW d 289 1204 [l0, l1, l2, l3] [.int y, .int x, v2, v3, v4, v5] m Q ↔ AW d 289 1205 [l0, l1, l2, l3] [.int (x + y), v2, v3, v4, v5] m Q := A_iadd hB_L_law dL_law_1204
theorem dL_law_1205 : decode cL_law 1205 = .ok (.iaload, 1) := by decide +kernel
theorem tL_law_1205 {d : Nat} {l0 l1 l2 l3 : Option Value} {v2 v3 v4 : Value} {i : Int32} {a : Nat} {m : jmM} {Q : Option Value → jmM → Prop} : AW d 289 1205 [l0, l1, l2, l3] [.int i, .ref a, v2, v3, v4] m Q ↔ (((mS m a).1 = 20 ∨ a = jScr) ∧ jIx i (mS m a).2) ∧ AW d 289 1206 [l0, l1, l2, l3] [.int (mI m a (jx i)), v2, v3, v4] m Q := A_iaload hB_L_law dL_law_1205
theorem dL_law_1206 : decode cL_law 1206 = .ok (.invokevirtual 142, 3) := by decide +kernel
theorem tL_law_1206 {d : Nat} {l0 l1 l2 l3 : Option Value} {v3 : Value} {y0 y1 : Value} {a : Nat} {m : jmM} {Q : Option Value → jmM → Prop} : AW d 289 1206 [l0, l1, l2, l3] [y0, y1, .ref a, v3] m Q ↔ (mS m a).1 = 12 ∧ CC d 266 [.ref a, y1, y0] m (jK d 289 1209 [l0, l1, l2, l3] [v3] Q) := A_callV hB_L_law dL_law_1206 hO_L_law fS_13_142 ⟨Nat.le_of_ble_eq_true rfl, Nat.le_of_ble_eq_true rfl⟩ rfl rfl rfl
theorem dL_law_1209 : decode cL_law 1209 = .ok (.if_icmp .eq 213, 3) := by decide +kernel
theorem tL_law_1209 {d : Nat} {l0 l1 l2 l3 : Option Value} {x y : Int32} {m : jmM} {Q : Option Value → jmM → Prop} : AW d 289 1209 [l0, l1, l2, l3] [.int y, .int x] m Q ↔ if x = y then AW d 289 1422 [l0, l1, l2, l3] [] m Q else AW d 289 1212 [l0, l1, l2, l3] [] m Q := A_icmp_eq hB_L_law dL_law_1209 (by decide)
theorem dL_law_1212 : decode cL_law 1212 = .ok (.iconst 0, 1) := by decide +kernel
theorem tL_law_1212 {d : Nat} {l0 l1 l2 l3 : Option Value} {m : jmM} {Q : Option Value → jmM → Prop} : AW d 289 1212 [l0, l1, l2, l3] [] m Q ↔ AW d 289 1213 [l0, l1, l2, l3] [.int 0] m Q := A_iconst hB_L_law dL_law_1212 (by decide)
theorem dL_law_1213 : decode cL_law 1213 = .ok (.ireturn, 1) := by decide +kernel
theorem tL_law_1213 {d : Nat} {l0 l1 l2 l3 : Option Value} {x : Int32} {m : jmM} {Q : Option Value → jmM → Prop} : AW d 289 1213 [l0, l1, l2, l3] [.int x] m Q ↔ jBool x ∧ Q (some (.int x)) m := A_zreturn hB_L_law dL_law_1213 hR_L_law
theorem dL_law_1214 : decode cL_law 1214 = .ok (.aload_n 1, 1) := by decide +kernel
theorem tL_law_1214 {d : Nat} {l0 l2 l3 : Option Value} {x : Nat} {m : jmM} {Q : Option Value → jmM → Prop} : AW d 289 1214 [l0, some (.ref x), l2, l3] [] m Q ↔ AW d 289 1215 [l0, some (.ref x), l2, l3] [.ref x] m Q := A_aload_n hB_L_law dL_law_1214 rfl
theorem dL_law_1215 : decode cL_law 1215 = .ok (.aload_n 0, 1) := by decide +kernel
theorem tL_law_1215 {d : Nat} {l1 l2 l3 : Option Value} {v0 : Value} {x : Nat} {m : jmM} {Q : Option Value → jmM → Prop} : AW d 289 1215 [some (.ref x), l1, l2, l3] [v0] m Q ↔ AW d 289 1216 [some (.ref x), l1, l2, l3] [.ref x, v0] m Q := A_aload_n hB_L_law dL_law_1215 rfl
theorem dL_law_1216 : decode cL_law 1216 = .ok (.iload_n 3, 1) := by decide +kernel
theorem tL_law_1216 {d : Nat} {l0 l1 l2 : Option Value} {v0 v1 : Value} {x : Int32} {m : jmM} {Q : Option Value → jmM → Prop} : AW d 289 1216 [l0, l1, l2, some (.int x)] [v0, v1] m Q ↔ AW d 289 1217 [l0, l1, l2, some (.int x)] [.int x, v0, v1] m Q := A_iload_n hB_L_law dL_law_1216 rfl
theorem dL_law_1217 : decode cL_law 1217 = .ok (.iconst 1, 1) := by decide +kernel
theorem tL_law_1217 {d : Nat} {l0 l1 l2 l3 : Option Value} {v0 v1 v2 : Value} {m : jmM} {Q : Option Value → jmM → Prop} : AW d 289 1217 [l0, l1, l2, l3] [v0, v1, v2] m Q ↔ AW d 289 1218 [l0, l1, l2, l3] [.int 1, v0, v1, v2] m Q := A_iconst hB_L_law dL_law_1217 (by decide)
theorem dL_law_1218 : decode cL_law 1218 = .ok (.iadd, 1) := by decide +kernel
theorem tL_law_1218 {d : Nat} {l0 l1 l2 l3 : Option Value} {v2 v3 : Value} {x y : Int32} {m : jmM} {Q : Option Value → jmM → Prop} : AW d 289 1218 [l0, l1, l2, l3] [.int y, .int x, v2, v3] m Q ↔ AW d 289 1219 [l0, l1, l2, l3] [.int (x + y), v2, v3] m Q := A_iadd hB_L_law dL_law_1218
theorem dL_law_1219 : decode cL_law 1219 = .ok (.iaload, 1) := by decide +kernel
theorem tL_law_1219 {d : Nat} {l0 l1 l2 l3 : Option Value} {v2 : Value} {i : Int32} {a : Nat} {m : jmM} {Q : Option Value → jmM → Prop} : AW d 289 1219 [l0, l1, l2, l3] [.int i, .ref a, v2] m Q ↔ (((mS m a).1 = 20 ∨ a = jScr) ∧ jIx i (mS m a).2) ∧ AW d 289 1220 [l0, l1, l2, l3] [.int (mI m a (jx i)), v2] m Q := A_iaload hB_L_law dL_law_1219
theorem dL_law_1220 : decode cL_law 1220 = .ok (.aload_n 0, 1) := by decide +kernel
theorem tL_law_1220 {d : Nat} {l1 l2 l3 : Option Value} {v0 v1 : Value} {x : Nat} {m : jmM} {Q : Option Value → jmM → Prop} : AW d 289 1220 [some (.ref x), l1, l2, l3] [v0, v1] m Q ↔ AW d 289 1221 [some (.ref x), l1, l2, l3] [.ref x, v0, v1] m Q := A_aload_n hB_L_law dL_law_1220 rfl
theorem dL_law_1221 : decode cL_law 1221 = .ok (.iload_n 3, 1) := by decide +kernel
theorem tL_law_1221 {d : Nat} {l0 l1 l2 : Option Value} {v0 v1 v2 : Value} {x : Int32} {m : jmM} {Q : Option Value → jmM → Prop} : AW d 289 1221 [l0, l1, l2, some (.int x)] [v0, v1, v2] m Q ↔ AW d 289 1222 [l0, l1, l2, some (.int x)] [.int x, v0, v1, v2] m Q := A_iload_n hB_L_law dL_law_1221 rfl
theorem dL_law_1222 : decode cL_law 1222 = .ok (.iconst 2, 1) := by decide +kernel
theorem tL_law_1222 {d : Nat} {l0 l1 l2 l3 : Option Value} {v0 v1 v2 v3 : Value} {m : jmM} {Q : Option Value → jmM → Prop} : AW d 289 1222 [l0, l1, l2, l3] [v0, v1, v2, v3] m Q ↔ AW d 289 1223 [l0, l1, l2, l3] [.int 2, v0, v1, v2, v3] m Q := A_iconst hB_L_law dL_law_1222 (by decide)
theorem dL_law_1223 : decode cL_law 1223 = .ok (.iadd, 1) := by decide +kernel
theorem tL_law_1223 {d : Nat} {l0 l1 l2 l3 : Option Value} {v2 v3 v4 : Value} {x y : Int32} {m : jmM} {Q : Option Value → jmM → Prop} : AW d 289 1223 [l0, l1, l2, l3] [.int y, .int x, v2, v3, v4] m Q ↔ AW d 289 1224 [l0, l1, l2, l3] [.int (x + y), v2, v3, v4] m Q := A_iadd hB_L_law dL_law_1223
theorem dL_law_1224 : decode cL_law 1224 = .ok (.iaload, 1) := by decide +kernel
theorem tL_law_1224 {d : Nat} {l0 l1 l2 l3 : Option Value} {v2 v3 : Value} {i : Int32} {a : Nat} {m : jmM} {Q : Option Value → jmM → Prop} : AW d 289 1224 [l0, l1, l2, l3] [.int i, .ref a, v2, v3] m Q ↔ (((mS m a).1 = 20 ∨ a = jScr) ∧ jIx i (mS m a).2) ∧ AW d 289 1225 [l0, l1, l2, l3] [.int (mI m a (jx i)), v2, v3] m Q := A_iaload hB_L_law dL_law_1224
theorem dL_law_1225 : decode cL_law 1225 = .ok (.aload_n 0, 1) := by decide +kernel
theorem tL_law_1225 {d : Nat} {l1 l2 l3 : Option Value} {v0 v1 v2 : Value} {x : Nat} {m : jmM} {Q : Option Value → jmM → Prop} : AW d 289 1225 [some (.ref x), l1, l2, l3] [v0, v1, v2] m Q ↔ AW d 289 1226 [some (.ref x), l1, l2, l3] [.ref x, v0, v1, v2] m Q := A_aload_n hB_L_law dL_law_1225 rfl
theorem dL_law_1226 : decode cL_law 1226 = .ok (.iload_n 3, 1) := by decide +kernel
theorem tL_law_1226 {d : Nat} {l0 l1 l2 : Option Value} {v0 v1 v2 v3 : Value} {x : Int32} {m : jmM} {Q : Option Value → jmM → Prop} : AW d 289 1226 [l0, l1, l2, some (.int x)] [v0, v1, v2, v3] m Q ↔ AW d 289 1227 [l0, l1, l2, some (.int x)] [.int x, v0, v1, v2, v3] m Q := A_iload_n hB_L_law dL_law_1226 rfl
theorem dL_law_1227 : decode cL_law 1227 = .ok (.iconst 3, 1) := by decide +kernel
theorem tL_law_1227 {d : Nat} {l0 l1 l2 l3 : Option Value} {v0 v1 v2 v3 v4 : Value} {m : jmM} {Q : Option Value → jmM → Prop} : AW d 289 1227 [l0, l1, l2, l3] [v0, v1, v2, v3, v4] m Q ↔ AW d 289 1228 [l0, l1, l2, l3] [.int 3, v0, v1, v2, v3, v4] m Q := A_iconst hB_L_law dL_law_1227 (by decide)
theorem dL_law_1228 : decode cL_law 1228 = .ok (.iadd, 1) := by decide +kernel
theorem tL_law_1228 {d : Nat} {l0 l1 l2 l3 : Option Value} {v2 v3 v4 v5 : Value} {x y : Int32} {m : jmM} {Q : Option Value → jmM → Prop} : AW d 289 1228 [l0, l1, l2, l3] [.int y, .int x, v2, v3, v4, v5] m Q ↔ AW d 289 1229 [l0, l1, l2, l3] [.int (x + y), v2, v3, v4, v5] m Q := A_iadd hB_L_law dL_law_1228
theorem dL_law_1229 : decode cL_law 1229 = .ok (.iaload, 1) := by decide +kernel
theorem tL_law_1229 {d : Nat} {l0 l1 l2 l3 : Option Value} {v2 v3 v4 : Value} {i : Int32} {a : Nat} {m : jmM} {Q : Option Value → jmM → Prop} : AW d 289 1229 [l0, l1, l2, l3] [.int i, .ref a, v2, v3, v4] m Q ↔ (((mS m a).1 = 20 ∨ a = jScr) ∧ jIx i (mS m a).2) ∧ AW d 289 1230 [l0, l1, l2, l3] [.int (mI m a (jx i)), v2, v3, v4] m Q := A_iaload hB_L_law dL_law_1229
theorem dL_law_1230 : decode cL_law 1230 = .ok (.aload_n 0, 1) := by decide +kernel
theorem tL_law_1230 {d : Nat} {l1 l2 l3 : Option Value} {v0 v1 v2 v3 : Value} {x : Nat} {m : jmM} {Q : Option Value → jmM → Prop} : AW d 289 1230 [some (.ref x), l1, l2, l3] [v0, v1, v2, v3] m Q ↔ AW d 289 1231 [some (.ref x), l1, l2, l3] [.ref x, v0, v1, v2, v3] m Q := A_aload_n hB_L_law dL_law_1230 rfl
theorem dL_law_1231 : decode cL_law 1231 = .ok (.iload_n 3, 1) := by decide +kernel
theorem tL_law_1231 {d : Nat} {l0 l1 l2 : Option Value} {v0 v1 v2 v3 v4 : Value} {x : Int32} {m : jmM} {Q : Option Value → jmM → Prop} : AW d 289 1231 [l0, l1, l2, some (.int x)] [v0, v1, v2, v3, v4] m Q ↔ AW d 289 1232 [l0, l1, l2, some (.int x)] [.int x, v0, v1, v2, v3, v4] m Q := A_iload_n hB_L_law dL_law_1231 rfl
theorem dL_law_1232 : decode cL_law 1232 = .ok (.iconst 4, 1) := by decide +kernel
theorem tL_law_1232 {d : Nat} {l0 l1 l2 l3 : Option Value} {v0 v1 v2 v3 v4 v5 : Value} {m : jmM} {Q : Option Value → jmM → Prop} : AW d 289 1232 [l0, l1, l2, l3] [v0, v1, v2, v3, v4, v5] m Q ↔ AW d 289 1233 [l0, l1, l2, l3] [.int 4, v0, v1, v2, v3, v4, v5] m Q := A_iconst hB_L_law dL_law_1232 (by decide)
theorem dL_law_1233 : decode cL_law 1233 = .ok (.iadd, 1) := by decide +kernel
theorem tL_law_1233 {d : Nat} {l0 l1 l2 l3 : Option Value} {v2 v3 v4 v5 v6 : Value} {x y : Int32} {m : jmM} {Q : Option Value → jmM → Prop} : AW d 289 1233 [l0, l1, l2, l3] [.int y, .int x, v2, v3, v4, v5, v6] m Q ↔ AW d 289 1234 [l0, l1, l2, l3] [.int (x + y), v2, v3, v4, v5, v6] m Q := A_iadd hB_L_law dL_law_1233
theorem dL_law_1234 : decode cL_law 1234 = .ok (.iaload, 1) := by decide +kernel
theorem tL_law_1234 {d : Nat} {l0 l1 l2 l3 : Option Value} {v2 v3 v4 v5 : Value} {i : Int32} {a : Nat} {m : jmM} {Q : Option Value → jmM → Prop} : AW d 289 1234 [l0, l1, l2, l3] [.int i, .ref a, v2, v3, v4, v5] m Q ↔ (((mS m a).1 = 20 ∨ a = jScr) ∧ jIx i (mS m a).2) ∧ AW d 289 1235 [l0, l1, l2, l3] [.int (mI m a (jx i)), v2, v3, v4, v5] m Q := A_iaload hB_L_law dL_law_1234
theorem dL_law_1235 : decode cL_law 1235 = .ok (.invokevirtual 143, 3) := by decide +kernel
theorem tL_law_1235 {d : Nat} {l0 l1 l2 l3 : Option Value} {y0 y1 y2 y3 : Value} {a : Nat} {m : jmM} {Q : Option Value → jmM → Prop} : AW d 289 1235 [l0, l1, l2, l3] [y0, y1, y2, y3, .ref a] m Q ↔ (mS m a).1 = 11 ∧ CC d 171 [.ref a, y3, y2, y1, y0] m (jK d 289 1238 [l0, l1, l2, l3] [] Q) := A_callV hB_L_law dL_law_1235 hO_L_law fS_13_143 ⟨Nat.le_of_ble_eq_true rfl, Nat.le_of_ble_eq_true rfl⟩ rfl rfl rfl
theorem dL_law_1238 : decode cL_law 1238 = .ok (.aload_n 2, 1) := by decide +kernel
theorem tL_law_1238 {d : Nat} {l0 l1 l3 : Option Value} {v0 : Value} {x : Nat} {m : jmM} {Q : Option Value → jmM → Prop} : AW d 289 1238 [l0, l1, some (.ref x), l3] [v0] m Q ↔ AW d 289 1239 [l0, l1, some (.ref x), l3] [.ref x, v0] m Q := A_aload_n hB_L_law dL_law_1238 rfl
theorem dL_law_1239 : decode cL_law 1239 = .ok (.aload_n 0, 1) := by decide +kernel
theorem tL_law_1239 {d : Nat} {l1 l2 l3 : Option Value} {v0 v1 : Value} {x : Nat} {m : jmM} {Q : Option Value → jmM → Prop} : AW d 289 1239 [some (.ref x), l1, l2, l3] [v0, v1] m Q ↔ AW d 289 1240 [some (.ref x), l1, l2, l3] [.ref x, v0, v1] m Q := A_aload_n hB_L_law dL_law_1239 rfl
theorem dL_law_1240 : decode cL_law 1240 = .ok (.iload_n 3, 1) := by decide +kernel
theorem tL_law_1240 {d : Nat} {l0 l1 l2 : Option Value} {v0 v1 v2 : Value} {x : Int32} {m : jmM} {Q : Option Value → jmM → Prop} : AW d 289 1240 [l0, l1, l2, some (.int x)] [v0, v1, v2] m Q ↔ AW d 289 1241 [l0, l1, l2, some (.int x)] [.int x, v0, v1, v2] m Q := A_iload_n hB_L_law dL_law_1240 rfl
theorem dL_law_1241 : decode cL_law 1241 = .ok (.iconst 1, 1) := by decide +kernel
theorem tL_law_1241 {d : Nat} {l0 l1 l2 l3 : Option Value} {v0 v1 v2 v3 : Value} {m : jmM} {Q : Option Value → jmM → Prop} : AW d 289 1241 [l0, l1, l2, l3] [v0, v1, v2, v3] m Q ↔ AW d 289 1242 [l0, l1, l2, l3] [.int 1, v0, v1, v2, v3] m Q := A_iconst hB_L_law dL_law_1241 (by decide)
theorem dL_law_1242 : decode cL_law 1242 = .ok (.iadd, 1) := by decide +kernel
theorem tL_law_1242 {d : Nat} {l0 l1 l2 l3 : Option Value} {v2 v3 v4 : Value} {x y : Int32} {m : jmM} {Q : Option Value → jmM → Prop} : AW d 289 1242 [l0, l1, l2, l3] [.int y, .int x, v2, v3, v4] m Q ↔ AW d 289 1243 [l0, l1, l2, l3] [.int (x + y), v2, v3, v4] m Q := A_iadd hB_L_law dL_law_1242
theorem dL_law_1243 : decode cL_law 1243 = .ok (.iaload, 1) := by decide +kernel
theorem tL_law_1243 {d : Nat} {l0 l1 l2 l3 : Option Value} {v2 v3 : Value} {i : Int32} {a : Nat} {m : jmM} {Q : Option Value → jmM → Prop} : AW d 289 1243 [l0, l1, l2, l3] [.int i, .ref a, v2, v3] m Q ↔ (((mS m a).1 = 20 ∨ a = jScr) ∧ jIx i (mS m a).2) ∧ AW d 289 1244 [l0, l1, l2, l3] [.int (mI m a (jx i)), v2, v3] m Q := A_iaload hB_L_law dL_law_1243
theorem dL_law_1244 : decode cL_law 1244 = .ok (.aload_n 0, 1) := by decide +kernel
theorem tL_law_1244 {d : Nat} {l1 l2 l3 : Option Value} {v0 v1 v2 : Value} {x : Nat} {m : jmM} {Q : Option Value → jmM → Prop} : AW d 289 1244 [some (.ref x), l1, l2, l3] [v0, v1, v2] m Q ↔ AW d 289 1245 [some (.ref x), l1, l2, l3] [.ref x, v0, v1, v2] m Q := A_aload_n hB_L_law dL_law_1244 rfl
theorem dL_law_1245 : decode cL_law 1245 = .ok (.iload_n 3, 1) := by decide +kernel
theorem tL_law_1245 {d : Nat} {l0 l1 l2 : Option Value} {v0 v1 v2 v3 : Value} {x : Int32} {m : jmM} {Q : Option Value → jmM → Prop} : AW d 289 1245 [l0, l1, l2, some (.int x)] [v0, v1, v2, v3] m Q ↔ AW d 289 1246 [l0, l1, l2, some (.int x)] [.int x, v0, v1, v2, v3] m Q := A_iload_n hB_L_law dL_law_1245 rfl
theorem dL_law_1246 : decode cL_law 1246 = .ok (.iconst 2, 1) := by decide +kernel
theorem tL_law_1246 {d : Nat} {l0 l1 l2 l3 : Option Value} {v0 v1 v2 v3 v4 : Value} {m : jmM} {Q : Option Value → jmM → Prop} : AW d 289 1246 [l0, l1, l2, l3] [v0, v1, v2, v3, v4] m Q ↔ AW d 289 1247 [l0, l1, l2, l3] [.int 2, v0, v1, v2, v3, v4] m Q := A_iconst hB_L_law dL_law_1246 (by decide)
theorem dL_law_1247 : decode cL_law 1247 = .ok (.iadd, 1) := by decide +kernel
theorem tL_law_1247 {d : Nat} {l0 l1 l2 l3 : Option Value} {v2 v3 v4 v5 : Value} {x y : Int32} {m : jmM} {Q : Option Value → jmM → Prop} : AW d 289 1247 [l0, l1, l2, l3] [.int y, .int x, v2, v3, v4, v5] m Q ↔ AW d 289 1248 [l0, l1, l2, l3] [.int (x + y), v2, v3, v4, v5] m Q := A_iadd hB_L_law dL_law_1247
theorem dL_law_1248 : decode cL_law 1248 = .ok (.iaload, 1) := by decide +kernel
theorem tL_law_1248 {d : Nat} {l0 l1 l2 l3 : Option Value} {v2 v3 v4 : Value} {i : Int32} {a : Nat} {m : jmM} {Q : Option Value → jmM → Prop} : AW d 289 1248 [l0, l1, l2, l3] [.int i, .ref a, v2, v3, v4] m Q ↔ (((mS m a).1 = 20 ∨ a = jScr) ∧ jIx i (mS m a).2) ∧ AW d 289 1249 [l0, l1, l2, l3] [.int (mI m a (jx i)), v2, v3, v4] m Q := A_iaload hB_L_law dL_law_1248
theorem dL_law_1249 : decode cL_law 1249 = .ok (.aload_n 0, 1) := by decide +kernel
theorem tL_law_1249 {d : Nat} {l1 l2 l3 : Option Value} {v0 v1 v2 v3 : Value} {x : Nat} {m : jmM} {Q : Option Value → jmM → Prop} : AW d 289 1249 [some (.ref x), l1, l2, l3] [v0, v1, v2, v3] m Q ↔ AW d 289 1250 [some (.ref x), l1, l2, l3] [.ref x, v0, v1, v2, v3] m Q := A_aload_n hB_L_law dL_law_1249 rfl
theorem dL_law_1250 : decode cL_law 1250 = .ok (.iload_n 3, 1) := by decide +kernel
theorem tL_law_1250 {d : Nat} {l0 l1 l2 : Option Value} {v0 v1 v2 v3 v4 : Value} {x : Int32} {m : jmM} {Q : Option Value → jmM → Prop} : AW d 289 1250 [l0, l1, l2, some (.int x)] [v0, v1, v2, v3, v4] m Q ↔ AW d 289 1251 [l0, l1, l2, some (.int x)] [.int x, v0, v1, v2, v3, v4] m Q := A_iload_n hB_L_law dL_law_1250 rfl
theorem dL_law_1251 : decode cL_law 1251 = .ok (.iconst 3, 1) := by decide +kernel
theorem tL_law_1251 {d : Nat} {l0 l1 l2 l3 : Option Value} {v0 v1 v2 v3 v4 v5 : Value} {m : jmM} {Q : Option Value → jmM → Prop} : AW d 289 1251 [l0, l1, l2, l3] [v0, v1, v2, v3, v4, v5] m Q ↔ AW d 289 1252 [l0, l1, l2, l3] [.int 3, v0, v1, v2, v3, v4, v5] m Q := A_iconst hB_L_law dL_law_1251 (by decide)
theorem dL_law_1252 : decode cL_law 1252 = .ok (.iadd, 1) := by decide +kernel
theorem tL_law_1252 {d : Nat} {l0 l1 l2 l3 : Option Value} {v2 v3 v4 v5 v6 : Value} {x y : Int32} {m : jmM} {Q : Option Value → jmM → Prop} : AW d 289 1252 [l0, l1, l2, l3] [.int y, .int x, v2, v3, v4, v5, v6] m Q ↔ AW d 289 1253 [l0, l1, l2, l3] [.int (x + y), v2, v3, v4, v5, v6] m Q := A_iadd hB_L_law dL_law_1252
theorem dL_law_1253 : decode cL_law 1253 = .ok (.iaload, 1) := by decide +kernel
theorem tL_law_1253 {d : Nat} {l0 l1 l2 l3 : Option Value} {v2 v3 v4 v5 : Value} {i : Int32} {a : Nat} {m : jmM} {Q : Option Value → jmM → Prop} : AW d 289 1253 [l0, l1, l2, l3] [.int i, .ref a, v2, v3, v4, v5] m Q ↔ (((mS m a).1 = 20 ∨ a = jScr) ∧ jIx i (mS m a).2) ∧ AW d 289 1254 [l0, l1, l2, l3] [.int (mI m a (jx i)), v2, v3, v4, v5] m Q := A_iaload hB_L_law dL_law_1253
theorem dL_law_1254 : decode cL_law 1254 = .ok (.aload_n 0, 1) := by decide +kernel
theorem tL_law_1254 {d : Nat} {l1 l2 l3 : Option Value} {v0 v1 v2 v3 v4 : Value} {x : Nat} {m : jmM} {Q : Option Value → jmM → Prop} : AW d 289 1254 [some (.ref x), l1, l2, l3] [v0, v1, v2, v3, v4] m Q ↔ AW d 289 1255 [some (.ref x), l1, l2, l3] [.ref x, v0, v1, v2, v3, v4] m Q := A_aload_n hB_L_law dL_law_1254 rfl
theorem dL_law_1255 : decode cL_law 1255 = .ok (.iload_n 3, 1) := by decide +kernel
theorem tL_law_1255 {d : Nat} {l0 l1 l2 : Option Value} {v0 v1 v2 v3 v4 v5 : Value} {x : Int32} {m : jmM} {Q : Option Value → jmM → Prop} : AW d 289 1255 [l0, l1, l2, some (.int x)] [v0, v1, v2, v3, v4, v5] m Q ↔ AW d 289 1256 [l0, l1, l2, some (.int x)] [.int x, v0, v1, v2, v3, v4, v5] m Q := A_iload_n hB_L_law dL_law_1255 rfl
theorem dL_law_1256 : decode cL_law 1256 = .ok (.iconst 4, 1) := by decide +kernel
theorem tL_law_1256 {d : Nat} {l0 l1 l2 l3 : Option Value} {v0 v1 v2 v3 v4 v5 v6 : Value} {m : jmM} {Q : Option Value → jmM → Prop} : AW d 289 1256 [l0, l1, l2, l3] [v0, v1, v2, v3, v4, v5, v6] m Q ↔ AW d 289 1257 [l0, l1, l2, l3] [.int 4, v0, v1, v2, v3, v4, v5, v6] m Q := A_iconst hB_L_law dL_law_1256 (by decide)
theorem dL_law_1257 : decode cL_law 1257 = .ok (.iadd, 1) := by decide +kernel
theorem tL_law_1257 {d : Nat} {l0 l1 l2 l3 : Option Value} {v2 v3 v4 v5 v6 v7 : Value} {x y : Int32} {m : jmM} {Q : Option Value → jmM → Prop} : AW d 289 1257 [l0, l1, l2, l3] [.int y, .int x, v2, v3, v4, v5, v6, v7] m Q ↔ AW d 289 1258 [l0, l1, l2, l3] [.int (x + y), v2, v3, v4, v5, v6, v7] m Q := A_iadd hB_L_law dL_law_1257
theorem dL_law_1258 : decode cL_law 1258 = .ok (.iaload, 1) := by decide +kernel
theorem tL_law_1258 {d : Nat} {l0 l1 l2 l3 : Option Value} {v2 v3 v4 v5 v6 : Value} {i : Int32} {a : Nat} {m : jmM} {Q : Option Value → jmM → Prop} : AW d 289 1258 [l0, l1, l2, l3] [.int i, .ref a, v2, v3, v4, v5, v6] m Q ↔ (((mS m a).1 = 20 ∨ a = jScr) ∧ jIx i (mS m a).2) ∧ AW d 289 1259 [l0, l1, l2, l3] [.int (mI m a (jx i)), v2, v3, v4, v5, v6] m Q := A_iaload hB_L_law dL_law_1258
theorem dL_law_1259 : decode cL_law 1259 = .ok (.invokevirtual 146, 3) := by decide +kernel
theorem tL_law_1259 {d : Nat} {l0 l1 l2 l3 : Option Value} {v5 : Value} {y0 y1 y2 y3 : Value} {a : Nat} {m : jmM} {Q : Option Value → jmM → Prop} : AW d 289 1259 [l0, l1, l2, l3] [y0, y1, y2, y3, .ref a, v5] m Q ↔ (mS m a).1 = 12 ∧ CC d 267 [.ref a, y3, y2, y1, y0] m (jK d 289 1262 [l0, l1, l2, l3] [v5] Q) := A_callV hB_L_law dL_law_1259 hO_L_law fS_13_146 ⟨Nat.le_of_ble_eq_true rfl, Nat.le_of_ble_eq_true rfl⟩ rfl rfl rfl
theorem dL_law_1262 : decode cL_law 1262 = .ok (.if_icmp .eq 160, 3) := by decide +kernel
theorem tL_law_1262 {d : Nat} {l0 l1 l2 l3 : Option Value} {x y : Int32} {m : jmM} {Q : Option Value → jmM → Prop} : AW d 289 1262 [l0, l1, l2, l3] [.int y, .int x] m Q ↔ if x = y then AW d 289 1422 [l0, l1, l2, l3] [] m Q else AW d 289 1265 [l0, l1, l2, l3] [] m Q := A_icmp_eq hB_L_law dL_law_1262 (by decide)
theorem dL_law_1265 : decode cL_law 1265 = .ok (.iconst 0, 1) := by decide +kernel
theorem tL_law_1265 {d : Nat} {l0 l1 l2 l3 : Option Value} {m : jmM} {Q : Option Value → jmM → Prop} : AW d 289 1265 [l0, l1, l2, l3] [] m Q ↔ AW d 289 1266 [l0, l1, l2, l3] [.int 0] m Q := A_iconst hB_L_law dL_law_1265 (by decide)
theorem dL_law_1266 : decode cL_law 1266 = .ok (.ireturn, 1) := by decide +kernel
theorem tL_law_1266 {d : Nat} {l0 l1 l2 l3 : Option Value} {x : Int32} {m : jmM} {Q : Option Value → jmM → Prop} : AW d 289 1266 [l0, l1, l2, l3] [.int x] m Q ↔ jBool x ∧ Q (some (.int x)) m := A_zreturn hB_L_law dL_law_1266 hR_L_law
theorem dL_law_1267 : decode cL_law 1267 = .ok (.aload_n 1, 1) := by decide +kernel
theorem tL_law_1267 {d : Nat} {l0 l2 l3 : Option Value} {x : Nat} {m : jmM} {Q : Option Value → jmM → Prop} : AW d 289 1267 [l0, some (.ref x), l2, l3] [] m Q ↔ AW d 289 1268 [l0, some (.ref x), l2, l3] [.ref x] m Q := A_aload_n hB_L_law dL_law_1267 rfl
theorem dL_law_1268 : decode cL_law 1268 = .ok (.aload_n 0, 1) := by decide +kernel
theorem tL_law_1268 {d : Nat} {l1 l2 l3 : Option Value} {v0 : Value} {x : Nat} {m : jmM} {Q : Option Value → jmM → Prop} : AW d 289 1268 [some (.ref x), l1, l2, l3] [v0] m Q ↔ AW d 289 1269 [some (.ref x), l1, l2, l3] [.ref x, v0] m Q := A_aload_n hB_L_law dL_law_1268 rfl
theorem dL_law_1269 : decode cL_law 1269 = .ok (.iload_n 3, 1) := by decide +kernel
theorem tL_law_1269 {d : Nat} {l0 l1 l2 : Option Value} {v0 v1 : Value} {x : Int32} {m : jmM} {Q : Option Value → jmM → Prop} : AW d 289 1269 [l0, l1, l2, some (.int x)] [v0, v1] m Q ↔ AW d 289 1270 [l0, l1, l2, some (.int x)] [.int x, v0, v1] m Q := A_iload_n hB_L_law dL_law_1269 rfl
theorem dL_law_1270 : decode cL_law 1270 = .ok (.iconst 1, 1) := by decide +kernel
theorem tL_law_1270 {d : Nat} {l0 l1 l2 l3 : Option Value} {v0 v1 v2 : Value} {m : jmM} {Q : Option Value → jmM → Prop} : AW d 289 1270 [l0, l1, l2, l3] [v0, v1, v2] m Q ↔ AW d 289 1271 [l0, l1, l2, l3] [.int 1, v0, v1, v2] m Q := A_iconst hB_L_law dL_law_1270 (by decide)
theorem dL_law_1271 : decode cL_law 1271 = .ok (.iadd, 1) := by decide +kernel
theorem tL_law_1271 {d : Nat} {l0 l1 l2 l3 : Option Value} {v2 v3 : Value} {x y : Int32} {m : jmM} {Q : Option Value → jmM → Prop} : AW d 289 1271 [l0, l1, l2, l3] [.int y, .int x, v2, v3] m Q ↔ AW d 289 1272 [l0, l1, l2, l3] [.int (x + y), v2, v3] m Q := A_iadd hB_L_law dL_law_1271
theorem dL_law_1272 : decode cL_law 1272 = .ok (.iaload, 1) := by decide +kernel
theorem tL_law_1272 {d : Nat} {l0 l1 l2 l3 : Option Value} {v2 : Value} {i : Int32} {a : Nat} {m : jmM} {Q : Option Value → jmM → Prop} : AW d 289 1272 [l0, l1, l2, l3] [.int i, .ref a, v2] m Q ↔ (((mS m a).1 = 20 ∨ a = jScr) ∧ jIx i (mS m a).2) ∧ AW d 289 1273 [l0, l1, l2, l3] [.int (mI m a (jx i)), v2] m Q := A_iaload hB_L_law dL_law_1272
theorem dL_law_1273 : decode cL_law 1273 = .ok (.aload_n 0, 1) := by decide +kernel
theorem tL_law_1273 {d : Nat} {l1 l2 l3 : Option Value} {v0 v1 : Value} {x : Nat} {m : jmM} {Q : Option Value → jmM → Prop} : AW d 289 1273 [some (.ref x), l1, l2, l3] [v0, v1] m Q ↔ AW d 289 1274 [some (.ref x), l1, l2, l3] [.ref x, v0, v1] m Q := A_aload_n hB_L_law dL_law_1273 rfl
theorem dL_law_1274 : decode cL_law 1274 = .ok (.iload_n 3, 1) := by decide +kernel
theorem tL_law_1274 {d : Nat} {l0 l1 l2 : Option Value} {v0 v1 v2 : Value} {x : Int32} {m : jmM} {Q : Option Value → jmM → Prop} : AW d 289 1274 [l0, l1, l2, some (.int x)] [v0, v1, v2] m Q ↔ AW d 289 1275 [l0, l1, l2, some (.int x)] [.int x, v0, v1, v2] m Q := A_iload_n hB_L_law dL_law_1274 rfl
theorem dL_law_1275 : decode cL_law 1275 = .ok (.iconst 2, 1) := by decide +kernel
theorem tL_law_1275 {d : Nat} {l0 l1 l2 l3 : Option Value} {v0 v1 v2 v3 : Value} {m : jmM} {Q : Option Value → jmM → Prop} : AW d 289 1275 [l0, l1, l2, l3] [v0, v1, v2, v3] m Q ↔ AW d 289 1276 [l0, l1, l2, l3] [.int 2, v0, v1, v2, v3] m Q := A_iconst hB_L_law dL_law_1275 (by decide)
theorem dL_law_1276 : decode cL_law 1276 = .ok (.iadd, 1) := by decide +kernel
theorem tL_law_1276 {d : Nat} {l0 l1 l2 l3 : Option Value} {v2 v3 v4 : Value} {x y : Int32} {m : jmM} {Q : Option Value → jmM → Prop} : AW d 289 1276 [l0, l1, l2, l3] [.int y, .int x, v2, v3, v4] m Q ↔ AW d 289 1277 [l0, l1, l2, l3] [.int (x + y), v2, v3, v4] m Q := A_iadd hB_L_law dL_law_1276
theorem dL_law_1277 : decode cL_law 1277 = .ok (.iaload, 1) := by decide +kernel
theorem tL_law_1277 {d : Nat} {l0 l1 l2 l3 : Option Value} {v2 v3 : Value} {i : Int32} {a : Nat} {m : jmM} {Q : Option Value → jmM → Prop} : AW d 289 1277 [l0, l1, l2, l3] [.int i, .ref a, v2, v3] m Q ↔ (((mS m a).1 = 20 ∨ a = jScr) ∧ jIx i (mS m a).2) ∧ AW d 289 1278 [l0, l1, l2, l3] [.int (mI m a (jx i)), v2, v3] m Q := A_iaload hB_L_law dL_law_1277
theorem dL_law_1278 : decode cL_law 1278 = .ok (.invokevirtual 147, 3) := by decide +kernel
theorem tL_law_1278 {d : Nat} {l0 l1 l2 l3 : Option Value} {y0 y1 : Value} {a : Nat} {m : jmM} {Q : Option Value → jmM → Prop} : AW d 289 1278 [l0, l1, l2, l3] [y0, y1, .ref a] m Q ↔ (mS m a).1 = 11 ∧ CC d 172 [.ref a, y1, y0] m (jK d 289 1281 [l0, l1, l2, l3] [] Q) := A_callV hB_L_law dL_law_1278 hO_L_law fS_13_147 ⟨Nat.le_of_ble_eq_true rfl, Nat.le_of_ble_eq_true rfl⟩ rfl rfl rfl
theorem dL_law_1281 : decode cL_law 1281 = .ok (.aload_n 2, 1) := by decide +kernel
theorem tL_law_1281 {d : Nat} {l0 l1 l3 : Option Value} {v0 : Value} {x : Nat} {m : jmM} {Q : Option Value → jmM → Prop} : AW d 289 1281 [l0, l1, some (.ref x), l3] [v0] m Q ↔ AW d 289 1282 [l0, l1, some (.ref x), l3] [.ref x, v0] m Q := A_aload_n hB_L_law dL_law_1281 rfl
theorem dL_law_1282 : decode cL_law 1282 = .ok (.aload_n 0, 1) := by decide +kernel
theorem tL_law_1282 {d : Nat} {l1 l2 l3 : Option Value} {v0 v1 : Value} {x : Nat} {m : jmM} {Q : Option Value → jmM → Prop} : AW d 289 1282 [some (.ref x), l1, l2, l3] [v0, v1] m Q ↔ AW d 289 1283 [some (.ref x), l1, l2, l3] [.ref x, v0, v1] m Q := A_aload_n hB_L_law dL_law_1282 rfl
theorem dL_law_1283 : decode cL_law 1283 = .ok (.iload_n 3, 1) := by decide +kernel
theorem tL_law_1283 {d : Nat} {l0 l1 l2 : Option Value} {v0 v1 v2 : Value} {x : Int32} {m : jmM} {Q : Option Value → jmM → Prop} : AW d 289 1283 [l0, l1, l2, some (.int x)] [v0, v1, v2] m Q ↔ AW d 289 1284 [l0, l1, l2, some (.int x)] [.int x, v0, v1, v2] m Q := A_iload_n hB_L_law dL_law_1283 rfl
theorem dL_law_1284 : decode cL_law 1284 = .ok (.iconst 1, 1) := by decide +kernel
theorem tL_law_1284 {d : Nat} {l0 l1 l2 l3 : Option Value} {v0 v1 v2 v3 : Value} {m : jmM} {Q : Option Value → jmM → Prop} : AW d 289 1284 [l0, l1, l2, l3] [v0, v1, v2, v3] m Q ↔ AW d 289 1285 [l0, l1, l2, l3] [.int 1, v0, v1, v2, v3] m Q := A_iconst hB_L_law dL_law_1284 (by decide)
theorem dL_law_1285 : decode cL_law 1285 = .ok (.iadd, 1) := by decide +kernel
theorem tL_law_1285 {d : Nat} {l0 l1 l2 l3 : Option Value} {v2 v3 v4 : Value} {x y : Int32} {m : jmM} {Q : Option Value → jmM → Prop} : AW d 289 1285 [l0, l1, l2, l3] [.int y, .int x, v2, v3, v4] m Q ↔ AW d 289 1286 [l0, l1, l2, l3] [.int (x + y), v2, v3, v4] m Q := A_iadd hB_L_law dL_law_1285
theorem dL_law_1286 : decode cL_law 1286 = .ok (.iaload, 1) := by decide +kernel
theorem tL_law_1286 {d : Nat} {l0 l1 l2 l3 : Option Value} {v2 v3 : Value} {i : Int32} {a : Nat} {m : jmM} {Q : Option Value → jmM → Prop} : AW d 289 1286 [l0, l1, l2, l3] [.int i, .ref a, v2, v3] m Q ↔ (((mS m a).1 = 20 ∨ a = jScr) ∧ jIx i (mS m a).2) ∧ AW d 289 1287 [l0, l1, l2, l3] [.int (mI m a (jx i)), v2, v3] m Q := A_iaload hB_L_law dL_law_1286
theorem dL_law_1287 : decode cL_law 1287 = .ok (.aload_n 0, 1) := by decide +kernel
theorem tL_law_1287 {d : Nat} {l1 l2 l3 : Option Value} {v0 v1 v2 : Value} {x : Nat} {m : jmM} {Q : Option Value → jmM → Prop} : AW d 289 1287 [some (.ref x), l1, l2, l3] [v0, v1, v2] m Q ↔ AW d 289 1288 [some (.ref x), l1, l2, l3] [.ref x, v0, v1, v2] m Q := A_aload_n hB_L_law dL_law_1287 rfl
theorem dL_law_1288 : decode cL_law 1288 = .ok (.iload_n 3, 1) := by decide +kernel
theorem tL_law_1288 {d : Nat} {l0 l1 l2 : Option Value} {v0 v1 v2 v3 : Value} {x : Int32} {m : jmM} {Q : Option Value → jmM → Prop} : AW d 289 1288 [l0, l1, l2, some (.int x)] [v0, v1, v2, v3] m Q ↔ AW d 289 1289 [l0, l1, l2, some (.int x)] [.int x, v0, v1, v2, v3] m Q := A_iload_n hB_L_law dL_law_1288 rfl
theorem dL_law_1289 : decode cL_law 1289 = .ok (.iconst 2, 1) := by decide +kernel
theorem tL_law_1289 {d : Nat} {l0 l1 l2 l3 : Option Value} {v0 v1 v2 v3 v4 : Value} {m : jmM} {Q : Option Value → jmM → Prop} : AW d 289 1289 [l0, l1, l2, l3] [v0, v1, v2, v3, v4] m Q ↔ AW d 289 1290 [l0, l1, l2, l3] [.int 2, v0, v1, v2, v3, v4] m Q := A_iconst hB_L_law dL_law_1289 (by decide)
theorem dL_law_1290 : decode cL_law 1290 = .ok (.iadd, 1) := by decide +kernel
theorem tL_law_1290 {d : Nat} {l0 l1 l2 l3 : Option Value} {v2 v3 v4 v5 : Value} {x y : Int32} {m : jmM} {Q : Option Value → jmM → Prop} : AW d 289 1290 [l0, l1, l2, l3] [.int y, .int x, v2, v3, v4, v5] m Q ↔ AW d 289 1291 [l0, l1, l2, l3] [.int (x + y), v2, v3, v4, v5] m Q := A_iadd hB_L_law dL_law_1290
theorem dL_law_1291 : decode cL_law 1291 = .ok (.iaload, 1) := by decide +kernel
theorem tL_law_1291 {d : Nat} {l0 l1 l2 l3 : Option Value} {v2 v3 v4 : Value} {i : Int32} {a : Nat} {m : jmM} {Q : Option Value → jmM → Prop} : AW d 289 1291 [l0, l1, l2, l3] [.int i, .ref a, v2, v3, v4] m Q ↔ (((mS m a).1 = 20 ∨ a = jScr) ∧ jIx i (mS m a).2) ∧ AW d 289 1292 [l0, l1, l2, l3] [.int (mI m a (jx i)), v2, v3, v4] m Q := A_iaload hB_L_law dL_law_1291
theorem dL_law_1292 : decode cL_law 1292 = .ok (.invokevirtual 150, 3) := by decide +kernel
theorem tL_law_1292 {d : Nat} {l0 l1 l2 l3 : Option Value} {v3 : Value} {y0 y1 : Value} {a : Nat} {m : jmM} {Q : Option Value → jmM → Prop} : AW d 289 1292 [l0, l1, l2, l3] [y0, y1, .ref a, v3] m Q ↔ (mS m a).1 = 12 ∧ CC d 268 [.ref a, y1, y0] m (jK d 289 1295 [l0, l1, l2, l3] [v3] Q) := A_callV hB_L_law dL_law_1292 hO_L_law fS_13_150 ⟨Nat.le_of_ble_eq_true rfl, Nat.le_of_ble_eq_true rfl⟩ rfl rfl rfl
theorem dL_law_1295 : decode cL_law 1295 = .ok (.if_icmp .eq 127, 3) := by decide +kernel
theorem tL_law_1295 {d : Nat} {l0 l1 l2 l3 : Option Value} {x y : Int32} {m : jmM} {Q : Option Value → jmM → Prop} : AW d 289 1295 [l0, l1, l2, l3] [.int y, .int x] m Q ↔ if x = y then AW d 289 1422 [l0, l1, l2, l3] [] m Q else AW d 289 1298 [l0, l1, l2, l3] [] m Q := A_icmp_eq hB_L_law dL_law_1295 (by decide)
theorem dL_law_1298 : decode cL_law 1298 = .ok (.iconst 0, 1) := by decide +kernel
theorem tL_law_1298 {d : Nat} {l0 l1 l2 l3 : Option Value} {m : jmM} {Q : Option Value → jmM → Prop} : AW d 289 1298 [l0, l1, l2, l3] [] m Q ↔ AW d 289 1299 [l0, l1, l2, l3] [.int 0] m Q := A_iconst hB_L_law dL_law_1298 (by decide)
theorem dL_law_1299 : decode cL_law 1299 = .ok (.ireturn, 1) := by decide +kernel
theorem tL_law_1299 {d : Nat} {l0 l1 l2 l3 : Option Value} {x : Int32} {m : jmM} {Q : Option Value → jmM → Prop} : AW d 289 1299 [l0, l1, l2, l3] [.int x] m Q ↔ jBool x ∧ Q (some (.int x)) m := A_zreturn hB_L_law dL_law_1299 hR_L_law
theorem dL_law_1300 : decode cL_law 1300 = .ok (.aload_n 1, 1) := by decide +kernel
theorem tL_law_1300 {d : Nat} {l0 l2 l3 : Option Value} {x : Nat} {m : jmM} {Q : Option Value → jmM → Prop} : AW d 289 1300 [l0, some (.ref x), l2, l3] [] m Q ↔ AW d 289 1301 [l0, some (.ref x), l2, l3] [.ref x] m Q := A_aload_n hB_L_law dL_law_1300 rfl
theorem dL_law_1301 : decode cL_law 1301 = .ok (.aload_n 0, 1) := by decide +kernel
theorem tL_law_1301 {d : Nat} {l1 l2 l3 : Option Value} {v0 : Value} {x : Nat} {m : jmM} {Q : Option Value → jmM → Prop} : AW d 289 1301 [some (.ref x), l1, l2, l3] [v0] m Q ↔ AW d 289 1302 [some (.ref x), l1, l2, l3] [.ref x, v0] m Q := A_aload_n hB_L_law dL_law_1301 rfl
theorem dL_law_1302 : decode cL_law 1302 = .ok (.iload_n 3, 1) := by decide +kernel
theorem tL_law_1302 {d : Nat} {l0 l1 l2 : Option Value} {v0 v1 : Value} {x : Int32} {m : jmM} {Q : Option Value → jmM → Prop} : AW d 289 1302 [l0, l1, l2, some (.int x)] [v0, v1] m Q ↔ AW d 289 1303 [l0, l1, l2, some (.int x)] [.int x, v0, v1] m Q := A_iload_n hB_L_law dL_law_1302 rfl
theorem dL_law_1303 : decode cL_law 1303 = .ok (.iconst 1, 1) := by decide +kernel
theorem tL_law_1303 {d : Nat} {l0 l1 l2 l3 : Option Value} {v0 v1 v2 : Value} {m : jmM} {Q : Option Value → jmM → Prop} : AW d 289 1303 [l0, l1, l2, l3] [v0, v1, v2] m Q ↔ AW d 289 1304 [l0, l1, l2, l3] [.int 1, v0, v1, v2] m Q := A_iconst hB_L_law dL_law_1303 (by decide)
theorem dL_law_1304 : decode cL_law 1304 = .ok (.iadd, 1) := by decide +kernel
theorem tL_law_1304 {d : Nat} {l0 l1 l2 l3 : Option Value} {v2 v3 : Value} {x y : Int32} {m : jmM} {Q : Option Value → jmM → Prop} : AW d 289 1304 [l0, l1, l2, l3] [.int y, .int x, v2, v3] m Q ↔ AW d 289 1305 [l0, l1, l2, l3] [.int (x + y), v2, v3] m Q := A_iadd hB_L_law dL_law_1304
theorem dL_law_1305 : decode cL_law 1305 = .ok (.iaload, 1) := by decide +kernel
theorem tL_law_1305 {d : Nat} {l0 l1 l2 l3 : Option Value} {v2 : Value} {i : Int32} {a : Nat} {m : jmM} {Q : Option Value → jmM → Prop} : AW d 289 1305 [l0, l1, l2, l3] [.int i, .ref a, v2] m Q ↔ (((mS m a).1 = 20 ∨ a = jScr) ∧ jIx i (mS m a).2) ∧ AW d 289 1306 [l0, l1, l2, l3] [.int (mI m a (jx i)), v2] m Q := A_iaload hB_L_law dL_law_1305
theorem dL_law_1306 : decode cL_law 1306 = .ok (.aload_n 0, 1) := by decide +kernel
theorem tL_law_1306 {d : Nat} {l1 l2 l3 : Option Value} {v0 v1 : Value} {x : Nat} {m : jmM} {Q : Option Value → jmM → Prop} : AW d 289 1306 [some (.ref x), l1, l2, l3] [v0, v1] m Q ↔ AW d 289 1307 [some (.ref x), l1, l2, l3] [.ref x, v0, v1] m Q := A_aload_n hB_L_law dL_law_1306 rfl
theorem dL_law_1307 : decode cL_law 1307 = .ok (.iload_n 3, 1) := by decide +kernel
theorem tL_law_1307 {d : Nat} {l0 l1 l2 : Option Value} {v0 v1 v2 : Value} {x : Int32} {m : jmM} {Q : Option Value → jmM → Prop} : AW d 289 1307 [l0, l1, l2, some (.int x)] [v0, v1, v2] m Q ↔ AW d 289 1308 [l0, l1, l2, some (.int x)] [.int x, v0, v1, v2] m Q := A_iload_n hB_L_law dL_law_1307 rfl
theorem dL_law_1308 : decode cL_law 1308 = .ok (.iconst 2, 1) := by decide +kernel
theorem tL_law_1308 {d : Nat} {l0 l1 l2 l3 : Option Value} {v0 v1 v2 v3 : Value} {m : jmM} {Q : Option Value → jmM → Prop} : AW d 289 1308 [l0, l1, l2, l3] [v0, v1, v2, v3] m Q ↔ AW d 289 1309 [l0, l1, l2, l3] [.int 2, v0, v1, v2, v3] m Q := A_iconst hB_L_law dL_law_1308 (by decide)
theorem dL_law_1309 : decode cL_law 1309 = .ok (.iadd, 1) := by decide +kernel
theorem tL_law_1309 {d : Nat} {l0 l1 l2 l3 : Option Value} {v2 v3 v4 : Value} {x y : Int32} {m : jmM} {Q : Option Value → jmM → Prop} : AW d 289 1309 [l0, l1, l2, l3] [.int y, .int x, v2, v3, v4] m Q ↔ AW d 289 1310 [l0, l1, l2, l3] [.int (x + y), v2, v3, v4] m Q := A_iadd hB_L_law dL_law_1309
theorem dL_law_1310 : decode cL_law 1310 = .ok (.iaload, 1) := by decide +kernel
theorem tL_law_1310 {d : Nat} {l0 l1 l2 l3 : Option Value} {v2 v3 : Value} {i : Int32} {a : Nat} {m : jmM} {Q : Option Value → jmM → Prop} : AW d 289 1310 [l0, l1, l2, l3] [.int i, .ref a, v2, v3] m Q ↔ (((mS m a).1 = 20 ∨ a = jScr) ∧ jIx i (mS m a).2) ∧ AW d 289 1311 [l0, l1, l2, l3] [.int (mI m a (jx i)), v2, v3] m Q := A_iaload hB_L_law dL_law_1310
theorem dL_law_1311 : decode cL_law 1311 = .ok (.invokevirtual 151, 3) := by decide +kernel
theorem tL_law_1311 {d : Nat} {l0 l1 l2 l3 : Option Value} {y0 y1 : Value} {a : Nat} {m : jmM} {Q : Option Value → jmM → Prop} : AW d 289 1311 [l0, l1, l2, l3] [y0, y1, .ref a] m Q ↔ (mS m a).1 = 11 ∧ CC d 173 [.ref a, y1, y0] m (jK d 289 1314 [l0, l1, l2, l3] [] Q) := A_callV hB_L_law dL_law_1311 hO_L_law fS_13_151 ⟨Nat.le_of_ble_eq_true rfl, Nat.le_of_ble_eq_true rfl⟩ rfl rfl rfl
theorem dL_law_1314 : decode cL_law 1314 = .ok (.aload_n 2, 1) := by decide +kernel
theorem tL_law_1314 {d : Nat} {l0 l1 l3 : Option Value} {v0 : Value} {x : Nat} {m : jmM} {Q : Option Value → jmM → Prop} : AW d 289 1314 [l0, l1, some (.ref x), l3] [v0] m Q ↔ AW d 289 1315 [l0, l1, some (.ref x), l3] [.ref x, v0] m Q := A_aload_n hB_L_law dL_law_1314 rfl
theorem dL_law_1315 : decode cL_law 1315 = .ok (.aload_n 0, 1) := by decide +kernel
theorem tL_law_1315 {d : Nat} {l1 l2 l3 : Option Value} {v0 v1 : Value} {x : Nat} {m : jmM} {Q : Option Value → jmM → Prop} : AW d 289 1315 [some (.ref x), l1, l2, l3] [v0, v1] m Q ↔ AW d 289 1316 [some (.ref x), l1, l2, l3] [.ref x, v0, v1] m Q := A_aload_n hB_L_law dL_law_1315 rfl
theorem dL_law_1316 : decode cL_law 1316 = .ok (.iload_n 3, 1) := by decide +kernel
theorem tL_law_1316 {d : Nat} {l0 l1 l2 : Option Value} {v0 v1 v2 : Value} {x : Int32} {m : jmM} {Q : Option Value → jmM → Prop} : AW d 289 1316 [l0, l1, l2, some (.int x)] [v0, v1, v2] m Q ↔ AW d 289 1317 [l0, l1, l2, some (.int x)] [.int x, v0, v1, v2] m Q := A_iload_n hB_L_law dL_law_1316 rfl
theorem dL_law_1317 : decode cL_law 1317 = .ok (.iconst 1, 1) := by decide +kernel
theorem tL_law_1317 {d : Nat} {l0 l1 l2 l3 : Option Value} {v0 v1 v2 v3 : Value} {m : jmM} {Q : Option Value → jmM → Prop} : AW d 289 1317 [l0, l1, l2, l3] [v0, v1, v2, v3] m Q ↔ AW d 289 1318 [l0, l1, l2, l3] [.int 1, v0, v1, v2, v3] m Q := A_iconst hB_L_law dL_law_1317 (by decide)
theorem dL_law_1318 : decode cL_law 1318 = .ok (.iadd, 1) := by decide +kernel
theorem tL_law_1318 {d : Nat} {l0 l1 l2 l3 : Option Value} {v2 v3 v4 : Value} {x y : Int32} {m : jmM} {Q : Option Value → jmM → Prop} : AW d 289 1318 [l0, l1, l2, l3] [.int y, .int x, v2, v3, v4] m Q ↔ AW d 289 1319 [l0, l1, l2, l3] [.int (x + y), v2, v3, v4] m Q := A_iadd hB_L_law dL_law_1318
theorem dL_law_1319 : decode cL_law 1319 = .ok (.iaload, 1) := by decide +kernel
theorem tL_law_1319 {d : Nat} {l0 l1 l2 l3 : Option Value} {v2 v3 : Value} {i : Int32} {a : Nat} {m : jmM} {Q : Option Value → jmM → Prop} : AW d 289 1319 [l0, l1, l2, l3] [.int i, .ref a, v2, v3] m Q ↔ (((mS m a).1 = 20 ∨ a = jScr) ∧ jIx i (mS m a).2) ∧ AW d 289 1320 [l0, l1, l2, l3] [.int (mI m a (jx i)), v2, v3] m Q := A_iaload hB_L_law dL_law_1319
theorem dL_law_1320 : decode cL_law 1320 = .ok (.aload_n 0, 1) := by decide +kernel
theorem tL_law_1320 {d : Nat} {l1 l2 l3 : Option Value} {v0 v1 v2 : Value} {x : Nat} {m : jmM} {Q : Option Value → jmM → Prop} : AW d 289 1320 [some (.ref x), l1, l2, l3] [v0, v1, v2] m Q ↔ AW d 289 1321 [some (.ref x), l1, l2, l3] [.ref x, v0, v1, v2] m Q := A_aload_n hB_L_law dL_law_1320 rfl
theorem dL_law_1321 : decode cL_law 1321 = .ok (.iload_n 3, 1) := by decide +kernel
theorem tL_law_1321 {d : Nat} {l0 l1 l2 : Option Value} {v0 v1 v2 v3 : Value} {x : Int32} {m : jmM} {Q : Option Value → jmM → Prop} : AW d 289 1321 [l0, l1, l2, some (.int x)] [v0, v1, v2, v3] m Q ↔ AW d 289 1322 [l0, l1, l2, some (.int x)] [.int x, v0, v1, v2, v3] m Q := A_iload_n hB_L_law dL_law_1321 rfl
theorem dL_law_1322 : decode cL_law 1322 = .ok (.iconst 2, 1) := by decide +kernel
theorem tL_law_1322 {d : Nat} {l0 l1 l2 l3 : Option Value} {v0 v1 v2 v3 v4 : Value} {m : jmM} {Q : Option Value → jmM → Prop} : AW d 289 1322 [l0, l1, l2, l3] [v0, v1, v2, v3, v4] m Q ↔ AW d 289 1323 [l0, l1, l2, l3] [.int 2, v0, v1, v2, v3, v4] m Q := A_iconst hB_L_law dL_law_1322 (by decide)
theorem dL_law_1323 : decode cL_law 1323 = .ok (.iadd, 1) := by decide +kernel
theorem tL_law_1323 {d : Nat} {l0 l1 l2 l3 : Option Value} {v2 v3 v4 v5 : Value} {x y : Int32} {m : jmM} {Q : Option Value → jmM → Prop} : AW d 289 1323 [l0, l1, l2, l3] [.int y, .int x, v2, v3, v4, v5] m Q ↔ AW d 289 1324 [l0, l1, l2, l3] [.int (x + y), v2, v3, v4, v5] m Q := A_iadd hB_L_law dL_law_1323
theorem dL_law_1324 : decode cL_law 1324 = .ok (.iaload, 1) := by decide +kernel
theorem tL_law_1324 {d : Nat} {l0 l1 l2 l3 : Option Value} {v2 v3 v4 : Value} {i : Int32} {a : Nat} {m : jmM} {Q : Option Value → jmM → Prop} : AW d 289 1324 [l0, l1, l2, l3] [.int i, .ref a, v2, v3, v4] m Q ↔ (((mS m a).1 = 20 ∨ a = jScr) ∧ jIx i (mS m a).2) ∧ AW d 289 1325 [l0, l1, l2, l3] [.int (mI m a (jx i)), v2, v3, v4] m Q := A_iaload hB_L_law dL_law_1324
theorem dL_law_1325 : decode cL_law 1325 = .ok (.invokevirtual 154, 3) := by decide +kernel
theorem tL_law_1325 {d : Nat} {l0 l1 l2 l3 : Option Value} {v3 : Value} {y0 y1 : Value} {a : Nat} {m : jmM} {Q : Option Value → jmM → Prop} : AW d 289 1325 [l0, l1, l2, l3] [y0, y1, .ref a, v3] m Q ↔ (mS m a).1 = 12 ∧ CC d 270 [.ref a, y1, y0] m (jK d 289 1328 [l0, l1, l2, l3] [v3] Q) := A_callV hB_L_law dL_law_1325 hO_L_law fS_13_154 ⟨Nat.le_of_ble_eq_true rfl, Nat.le_of_ble_eq_true rfl⟩ rfl rfl rfl
theorem dL_law_1328 : decode cL_law 1328 = .ok (.if_icmp .eq 94, 3) := by decide +kernel
theorem tL_law_1328 {d : Nat} {l0 l1 l2 l3 : Option Value} {x y : Int32} {m : jmM} {Q : Option Value → jmM → Prop} : AW d 289 1328 [l0, l1, l2, l3] [.int y, .int x] m Q ↔ if x = y then AW d 289 1422 [l0, l1, l2, l3] [] m Q else AW d 289 1331 [l0, l1, l2, l3] [] m Q := A_icmp_eq hB_L_law dL_law_1328 (by decide)
theorem dL_law_1331 : decode cL_law 1331 = .ok (.iconst 0, 1) := by decide +kernel
theorem tL_law_1331 {d : Nat} {l0 l1 l2 l3 : Option Value} {m : jmM} {Q : Option Value → jmM → Prop} : AW d 289 1331 [l0, l1, l2, l3] [] m Q ↔ AW d 289 1332 [l0, l1, l2, l3] [.int 0] m Q := A_iconst hB_L_law dL_law_1331 (by decide)
theorem dL_law_1332 : decode cL_law 1332 = .ok (.ireturn, 1) := by decide +kernel
theorem tL_law_1332 {d : Nat} {l0 l1 l2 l3 : Option Value} {x : Int32} {m : jmM} {Q : Option Value → jmM → Prop} : AW d 289 1332 [l0, l1, l2, l3] [.int x] m Q ↔ jBool x ∧ Q (some (.int x)) m := A_zreturn hB_L_law dL_law_1332 hR_L_law
theorem dL_law_1333 : decode cL_law 1333 = .ok (.aload_n 1, 1) := by decide +kernel
theorem tL_law_1333 {d : Nat} {l0 l2 l3 : Option Value} {x : Nat} {m : jmM} {Q : Option Value → jmM → Prop} : AW d 289 1333 [l0, some (.ref x), l2, l3] [] m Q ↔ AW d 289 1334 [l0, some (.ref x), l2, l3] [.ref x] m Q := A_aload_n hB_L_law dL_law_1333 rfl
theorem dL_law_1334 : decode cL_law 1334 = .ok (.aload_n 0, 1) := by decide +kernel
theorem tL_law_1334 {d : Nat} {l1 l2 l3 : Option Value} {v0 : Value} {x : Nat} {m : jmM} {Q : Option Value → jmM → Prop} : AW d 289 1334 [some (.ref x), l1, l2, l3] [v0] m Q ↔ AW d 289 1335 [some (.ref x), l1, l2, l3] [.ref x, v0] m Q := A_aload_n hB_L_law dL_law_1334 rfl
theorem dL_law_1335 : decode cL_law 1335 = .ok (.iload_n 3, 1) := by decide +kernel
theorem tL_law_1335 {d : Nat} {l0 l1 l2 : Option Value} {v0 v1 : Value} {x : Int32} {m : jmM} {Q : Option Value → jmM → Prop} : AW d 289 1335 [l0, l1, l2, some (.int x)] [v0, v1] m Q ↔ AW d 289 1336 [l0, l1, l2, some (.int x)] [.int x, v0, v1] m Q := A_iload_n hB_L_law dL_law_1335 rfl
theorem dL_law_1336 : decode cL_law 1336 = .ok (.iconst 1, 1) := by decide +kernel
theorem tL_law_1336 {d : Nat} {l0 l1 l2 l3 : Option Value} {v0 v1 v2 : Value} {m : jmM} {Q : Option Value → jmM → Prop} : AW d 289 1336 [l0, l1, l2, l3] [v0, v1, v2] m Q ↔ AW d 289 1337 [l0, l1, l2, l3] [.int 1, v0, v1, v2] m Q := A_iconst hB_L_law dL_law_1336 (by decide)
theorem dL_law_1337 : decode cL_law 1337 = .ok (.iadd, 1) := by decide +kernel
theorem tL_law_1337 {d : Nat} {l0 l1 l2 l3 : Option Value} {v2 v3 : Value} {x y : Int32} {m : jmM} {Q : Option Value → jmM → Prop} : AW d 289 1337 [l0, l1, l2, l3] [.int y, .int x, v2, v3] m Q ↔ AW d 289 1338 [l0, l1, l2, l3] [.int (x + y), v2, v3] m Q := A_iadd hB_L_law dL_law_1337
theorem dL_law_1338 : decode cL_law 1338 = .ok (.iaload, 1) := by decide +kernel
theorem tL_law_1338 {d : Nat} {l0 l1 l2 l3 : Option Value} {v2 : Value} {i : Int32} {a : Nat} {m : jmM} {Q : Option Value → jmM → Prop} : AW d 289 1338 [l0, l1, l2, l3] [.int i, .ref a, v2] m Q ↔ (((mS m a).1 = 20 ∨ a = jScr) ∧ jIx i (mS m a).2) ∧ AW d 289 1339 [l0, l1, l2, l3] [.int (mI m a (jx i)), v2] m Q := A_iaload hB_L_law dL_law_1338
theorem dL_law_1339 : decode cL_law 1339 = .ok (.aload_n 0, 1) := by decide +kernel
theorem tL_law_1339 {d : Nat} {l1 l2 l3 : Option Value} {v0 v1 : Value} {x : Nat} {m : jmM} {Q : Option Value → jmM → Prop} : AW d 289 1339 [some (.ref x), l1, l2, l3] [v0, v1] m Q ↔ AW d 289 1340 [some (.ref x), l1, l2, l3] [.ref x, v0, v1] m Q := A_aload_n hB_L_law dL_law_1339 rfl
theorem dL_law_1340 : decode cL_law 1340 = .ok (.iload_n 3, 1) := by decide +kernel
theorem tL_law_1340 {d : Nat} {l0 l1 l2 : Option Value} {v0 v1 v2 : Value} {x : Int32} {m : jmM} {Q : Option Value → jmM → Prop} : AW d 289 1340 [l0, l1, l2, some (.int x)] [v0, v1, v2] m Q ↔ AW d 289 1341 [l0, l1, l2, some (.int x)] [.int x, v0, v1, v2] m Q := A_iload_n hB_L_law dL_law_1340 rfl
theorem dL_law_1341 : decode cL_law 1341 = .ok (.iconst 2, 1) := by decide +kernel
theorem tL_law_1341 {d : Nat} {l0 l1 l2 l3 : Option Value} {v0 v1 v2 v3 : Value} {m : jmM} {Q : Option Value → jmM → Prop} : AW d 289 1341 [l0, l1, l2, l3] [v0, v1, v2, v3] m Q ↔ AW d 289 1342 [l0, l1, l2, l3] [.int 2, v0, v1, v2, v3] m Q := A_iconst hB_L_law dL_law_1341 (by decide)
theorem dL_law_1342 : decode cL_law 1342 = .ok (.iadd, 1) := by decide +kernel
theorem tL_law_1342 {d : Nat} {l0 l1 l2 l3 : Option Value} {v2 v3 v4 : Value} {x y : Int32} {m : jmM} {Q : Option Value → jmM → Prop} : AW d 289 1342 [l0, l1, l2, l3] [.int y, .int x, v2, v3, v4] m Q ↔ AW d 289 1343 [l0, l1, l2, l3] [.int (x + y), v2, v3, v4] m Q := A_iadd hB_L_law dL_law_1342
theorem dL_law_1343 : decode cL_law 1343 = .ok (.iaload, 1) := by decide +kernel
theorem tL_law_1343 {d : Nat} {l0 l1 l2 l3 : Option Value} {v2 v3 : Value} {i : Int32} {a : Nat} {m : jmM} {Q : Option Value → jmM → Prop} : AW d 289 1343 [l0, l1, l2, l3] [.int i, .ref a, v2, v3] m Q ↔ (((mS m a).1 = 20 ∨ a = jScr) ∧ jIx i (mS m a).2) ∧ AW d 289 1344 [l0, l1, l2, l3] [.int (mI m a (jx i)), v2, v3] m Q := A_iaload hB_L_law dL_law_1343
theorem dL_law_1344 : decode cL_law 1344 = .ok (.aload_n 0, 1) := by decide +kernel
theorem tL_law_1344 {d : Nat} {l1 l2 l3 : Option Value} {v0 v1 v2 : Value} {x : Nat} {m : jmM} {Q : Option Value → jmM → Prop} : AW d 289 1344 [some (.ref x), l1, l2, l3] [v0, v1, v2] m Q ↔ AW d 289 1345 [some (.ref x), l1, l2, l3] [.ref x, v0, v1, v2] m Q := A_aload_n hB_L_law dL_law_1344 rfl
theorem dL_law_1345 : decode cL_law 1345 = .ok (.iload_n 3, 1) := by decide +kernel
theorem tL_law_1345 {d : Nat} {l0 l1 l2 : Option Value} {v0 v1 v2 v3 : Value} {x : Int32} {m : jmM} {Q : Option Value → jmM → Prop} : AW d 289 1345 [l0, l1, l2, some (.int x)] [v0, v1, v2, v3] m Q ↔ AW d 289 1346 [l0, l1, l2, some (.int x)] [.int x, v0, v1, v2, v3] m Q := A_iload_n hB_L_law dL_law_1345 rfl
theorem dL_law_1346 : decode cL_law 1346 = .ok (.iconst 3, 1) := by decide +kernel
theorem tL_law_1346 {d : Nat} {l0 l1 l2 l3 : Option Value} {v0 v1 v2 v3 v4 : Value} {m : jmM} {Q : Option Value → jmM → Prop} : AW d 289 1346 [l0, l1, l2, l3] [v0, v1, v2, v3, v4] m Q ↔ AW d 289 1347 [l0, l1, l2, l3] [.int 3, v0, v1, v2, v3, v4] m Q := A_iconst hB_L_law dL_law_1346 (by decide)
theorem dL_law_1347 : decode cL_law 1347 = .ok (.iadd, 1) := by decide +kernel
theorem tL_law_1347 {d : Nat} {l0 l1 l2 l3 : Option Value} {v2 v3 v4 v5 : Value} {x y : Int32} {m : jmM} {Q : Option Value → jmM → Prop} : AW d 289 1347 [l0, l1, l2, l3] [.int y, .int x, v2, v3, v4, v5] m Q ↔ AW d 289 1348 [l0, l1, l2, l3] [.int (x + y), v2, v3, v4, v5] m Q := A_iadd hB_L_law dL_law_1347
theorem dL_law_1348 : decode cL_law 1348 = .ok (.iaload, 1) := by decide +kernel
theorem tL_law_1348 {d : Nat} {l0 l1 l2 l3 : Option Value} {v2 v3 v4 : Value} {i : Int32} {a : Nat} {m : jmM} {Q : Option Value → jmM → Prop} : AW d 289 1348 [l0, l1, l2, l3] [.int i, .ref a, v2, v3, v4] m Q ↔ (((mS m a).1 = 20 ∨ a = jScr) ∧ jIx i (mS m a).2) ∧ AW d 289 1349 [l0, l1, l2, l3] [.int (mI m a (jx i)), v2, v3, v4] m Q := A_iaload hB_L_law dL_law_1348
theorem dL_law_1349 : decode cL_law 1349 = .ok (.invokevirtual 155, 3) := by decide +kernel
theorem tL_law_1349 {d : Nat} {l0 l1 l2 l3 : Option Value} {y0 y1 y2 : Value} {a : Nat} {m : jmM} {Q : Option Value → jmM → Prop} : AW d 289 1349 [l0, l1, l2, l3] [y0, y1, y2, .ref a] m Q ↔ (mS m a).1 = 11 ∧ CC d 174 [.ref a, y2, y1, y0] m (jK d 289 1352 [l0, l1, l2, l3] [] Q) := A_callV hB_L_law dL_law_1349 hO_L_law fS_13_155 ⟨Nat.le_of_ble_eq_true rfl, Nat.le_of_ble_eq_true rfl⟩ rfl rfl rfl
theorem dL_law_1352 : decode cL_law 1352 = .ok (.aload_n 2, 1) := by decide +kernel
theorem tL_law_1352 {d : Nat} {l0 l1 l3 : Option Value} {v0 : Value} {x : Nat} {m : jmM} {Q : Option Value → jmM → Prop} : AW d 289 1352 [l0, l1, some (.ref x), l3] [v0] m Q ↔ AW d 289 1353 [l0, l1, some (.ref x), l3] [.ref x, v0] m Q := A_aload_n hB_L_law dL_law_1352 rfl
theorem dL_law_1353 : decode cL_law 1353 = .ok (.aload_n 0, 1) := by decide +kernel
theorem tL_law_1353 {d : Nat} {l1 l2 l3 : Option Value} {v0 v1 : Value} {x : Nat} {m : jmM} {Q : Option Value → jmM → Prop} : AW d 289 1353 [some (.ref x), l1, l2, l3] [v0, v1] m Q ↔ AW d 289 1354 [some (.ref x), l1, l2, l3] [.ref x, v0, v1] m Q := A_aload_n hB_L_law dL_law_1353 rfl
theorem dL_law_1354 : decode cL_law 1354 = .ok (.iload_n 3, 1) := by decide +kernel
theorem tL_law_1354 {d : Nat} {l0 l1 l2 : Option Value} {v0 v1 v2 : Value} {x : Int32} {m : jmM} {Q : Option Value → jmM → Prop} : AW d 289 1354 [l0, l1, l2, some (.int x)] [v0, v1, v2] m Q ↔ AW d 289 1355 [l0, l1, l2, some (.int x)] [.int x, v0, v1, v2] m Q := A_iload_n hB_L_law dL_law_1354 rfl
theorem dL_law_1355 : decode cL_law 1355 = .ok (.iconst 1, 1) := by decide +kernel
theorem tL_law_1355 {d : Nat} {l0 l1 l2 l3 : Option Value} {v0 v1 v2 v3 : Value} {m : jmM} {Q : Option Value → jmM → Prop} : AW d 289 1355 [l0, l1, l2, l3] [v0, v1, v2, v3] m Q ↔ AW d 289 1356 [l0, l1, l2, l3] [.int 1, v0, v1, v2, v3] m Q := A_iconst hB_L_law dL_law_1355 (by decide)
theorem dL_law_1356 : decode cL_law 1356 = .ok (.iadd, 1) := by decide +kernel
theorem tL_law_1356 {d : Nat} {l0 l1 l2 l3 : Option Value} {v2 v3 v4 : Value} {x y : Int32} {m : jmM} {Q : Option Value → jmM → Prop} : AW d 289 1356 [l0, l1, l2, l3] [.int y, .int x, v2, v3, v4] m Q ↔ AW d 289 1357 [l0, l1, l2, l3] [.int (x + y), v2, v3, v4] m Q := A_iadd hB_L_law dL_law_1356
theorem dL_law_1357 : decode cL_law 1357 = .ok (.iaload, 1) := by decide +kernel
theorem tL_law_1357 {d : Nat} {l0 l1 l2 l3 : Option Value} {v2 v3 : Value} {i : Int32} {a : Nat} {m : jmM} {Q : Option Value → jmM → Prop} : AW d 289 1357 [l0, l1, l2, l3] [.int i, .ref a, v2, v3] m Q ↔ (((mS m a).1 = 20 ∨ a = jScr) ∧ jIx i (mS m a).2) ∧ AW d 289 1358 [l0, l1, l2, l3] [.int (mI m a (jx i)), v2, v3] m Q := A_iaload hB_L_law dL_law_1357
theorem dL_law_1358 : decode cL_law 1358 = .ok (.aload_n 0, 1) := by decide +kernel
theorem tL_law_1358 {d : Nat} {l1 l2 l3 : Option Value} {v0 v1 v2 : Value} {x : Nat} {m : jmM} {Q : Option Value → jmM → Prop} : AW d 289 1358 [some (.ref x), l1, l2, l3] [v0, v1, v2] m Q ↔ AW d 289 1359 [some (.ref x), l1, l2, l3] [.ref x, v0, v1, v2] m Q := A_aload_n hB_L_law dL_law_1358 rfl
theorem dL_law_1359 : decode cL_law 1359 = .ok (.iload_n 3, 1) := by decide +kernel
theorem tL_law_1359 {d : Nat} {l0 l1 l2 : Option Value} {v0 v1 v2 v3 : Value} {x : Int32} {m : jmM} {Q : Option Value → jmM → Prop} : AW d 289 1359 [l0, l1, l2, some (.int x)] [v0, v1, v2, v3] m Q ↔ AW d 289 1360 [l0, l1, l2, some (.int x)] [.int x, v0, v1, v2, v3] m Q := A_iload_n hB_L_law dL_law_1359 rfl
theorem dL_law_1360 : decode cL_law 1360 = .ok (.iconst 2, 1) := by decide +kernel
theorem tL_law_1360 {d : Nat} {l0 l1 l2 l3 : Option Value} {v0 v1 v2 v3 v4 : Value} {m : jmM} {Q : Option Value → jmM → Prop} : AW d 289 1360 [l0, l1, l2, l3] [v0, v1, v2, v3, v4] m Q ↔ AW d 289 1361 [l0, l1, l2, l3] [.int 2, v0, v1, v2, v3, v4] m Q := A_iconst hB_L_law dL_law_1360 (by decide)
theorem dL_law_1361 : decode cL_law 1361 = .ok (.iadd, 1) := by decide +kernel
theorem tL_law_1361 {d : Nat} {l0 l1 l2 l3 : Option Value} {v2 v3 v4 v5 : Value} {x y : Int32} {m : jmM} {Q : Option Value → jmM → Prop} : AW d 289 1361 [l0, l1, l2, l3] [.int y, .int x, v2, v3, v4, v5] m Q ↔ AW d 289 1362 [l0, l1, l2, l3] [.int (x + y), v2, v3, v4, v5] m Q := A_iadd hB_L_law dL_law_1361
theorem dL_law_1362 : decode cL_law 1362 = .ok (.iaload, 1) := by decide +kernel
theorem tL_law_1362 {d : Nat} {l0 l1 l2 l3 : Option Value} {v2 v3 v4 : Value} {i : Int32} {a : Nat} {m : jmM} {Q : Option Value → jmM → Prop} : AW d 289 1362 [l0, l1, l2, l3] [.int i, .ref a, v2, v3, v4] m Q ↔ (((mS m a).1 = 20 ∨ a = jScr) ∧ jIx i (mS m a).2) ∧ AW d 289 1363 [l0, l1, l2, l3] [.int (mI m a (jx i)), v2, v3, v4] m Q := A_iaload hB_L_law dL_law_1362
theorem dL_law_1363 : decode cL_law 1363 = .ok (.aload_n 0, 1) := by decide +kernel
theorem tL_law_1363 {d : Nat} {l1 l2 l3 : Option Value} {v0 v1 v2 v3 : Value} {x : Nat} {m : jmM} {Q : Option Value → jmM → Prop} : AW d 289 1363 [some (.ref x), l1, l2, l3] [v0, v1, v2, v3] m Q ↔ AW d 289 1364 [some (.ref x), l1, l2, l3] [.ref x, v0, v1, v2, v3] m Q := A_aload_n hB_L_law dL_law_1363 rfl
theorem dL_law_1364 : decode cL_law 1364 = .ok (.iload_n 3, 1) := by decide +kernel
theorem tL_law_1364 {d : Nat} {l0 l1 l2 : Option Value} {v0 v1 v2 v3 v4 : Value} {x : Int32} {m : jmM} {Q : Option Value → jmM → Prop} : AW d 289 1364 [l0, l1, l2, some (.int x)] [v0, v1, v2, v3, v4] m Q ↔ AW d 289 1365 [l0, l1, l2, some (.int x)] [.int x, v0, v1, v2, v3, v4] m Q := A_iload_n hB_L_law dL_law_1364 rfl
theorem dL_law_1365 : decode cL_law 1365 = .ok (.iconst 3, 1) := by decide +kernel
theorem tL_law_1365 {d : Nat} {l0 l1 l2 l3 : Option Value} {v0 v1 v2 v3 v4 v5 : Value} {m : jmM} {Q : Option Value → jmM → Prop} : AW d 289 1365 [l0, l1, l2, l3] [v0, v1, v2, v3, v4, v5] m Q ↔ AW d 289 1366 [l0, l1, l2, l3] [.int 3, v0, v1, v2, v3, v4, v5] m Q := A_iconst hB_L_law dL_law_1365 (by decide)
theorem dL_law_1366 : decode cL_law 1366 = .ok (.iadd, 1) := by decide +kernel
theorem tL_law_1366 {d : Nat} {l0 l1 l2 l3 : Option Value} {v2 v3 v4 v5 v6 : Value} {x y : Int32} {m : jmM} {Q : Option Value → jmM → Prop} : AW d 289 1366 [l0, l1, l2, l3] [.int y, .int x, v2, v3, v4, v5, v6] m Q ↔ AW d 289 1367 [l0, l1, l2, l3] [.int (x + y), v2, v3, v4, v5, v6] m Q := A_iadd hB_L_law dL_law_1366
theorem dL_law_1367 : decode cL_law 1367 = .ok (.iaload, 1) := by decide +kernel
theorem tL_law_1367 {d : Nat} {l0 l1 l2 l3 : Option Value} {v2 v3 v4 v5 : Value} {i : Int32} {a : Nat} {m : jmM} {Q : Option Value → jmM → Prop} : AW d 289 1367 [l0, l1, l2, l3] [.int i, .ref a, v2, v3, v4, v5] m Q ↔ (((mS m a).1 = 20 ∨ a = jScr) ∧ jIx i (mS m a).2) ∧ AW d 289 1368 [l0, l1, l2, l3] [.int (mI m a (jx i)), v2, v3, v4, v5] m Q := A_iaload hB_L_law dL_law_1367
theorem dL_law_1368 : decode cL_law 1368 = .ok (.invokevirtual 158, 3) := by decide +kernel
theorem tL_law_1368 {d : Nat} {l0 l1 l2 l3 : Option Value} {v4 : Value} {y0 y1 y2 : Value} {a : Nat} {m : jmM} {Q : Option Value → jmM → Prop} : AW d 289 1368 [l0, l1, l2, l3] [y0, y1, y2, .ref a, v4] m Q ↔ (mS m a).1 = 12 ∧ CC d 282 [.ref a, y2, y1, y0] m (jK d 289 1371 [l0, l1, l2, l3] [v4] Q) := A_callV hB_L_law dL_law_1368 hO_L_law fS_13_158 ⟨Nat.le_of_ble_eq_true rfl, Nat.le_of_ble_eq_true rfl⟩ rfl rfl rfl
theorem dL_law_1371 : decode cL_law 1371 = .ok (.if_icmp .eq 51, 3) := by decide +kernel
theorem tL_law_1371 {d : Nat} {l0 l1 l2 l3 : Option Value} {x y : Int32} {m : jmM} {Q : Option Value → jmM → Prop} : AW d 289 1371 [l0, l1, l2, l3] [.int y, .int x] m Q ↔ if x = y then AW d 289 1422 [l0, l1, l2, l3] [] m Q else AW d 289 1374 [l0, l1, l2, l3] [] m Q := A_icmp_eq hB_L_law dL_law_1371 (by decide)
theorem dL_law_1374 : decode cL_law 1374 = .ok (.iconst 0, 1) := by decide +kernel
theorem tL_law_1374 {d : Nat} {l0 l1 l2 l3 : Option Value} {m : jmM} {Q : Option Value → jmM → Prop} : AW d 289 1374 [l0, l1, l2, l3] [] m Q ↔ AW d 289 1375 [l0, l1, l2, l3] [.int 0] m Q := A_iconst hB_L_law dL_law_1374 (by decide)
theorem dL_law_1375 : decode cL_law 1375 = .ok (.ireturn, 1) := by decide +kernel
theorem tL_law_1375 {d : Nat} {l0 l1 l2 l3 : Option Value} {x : Int32} {m : jmM} {Q : Option Value → jmM → Prop} : AW d 289 1375 [l0, l1, l2, l3] [.int x] m Q ↔ jBool x ∧ Q (some (.int x)) m := A_zreturn hB_L_law dL_law_1375 hR_L_law
theorem dL_law_1376 : decode cL_law 1376 = .ok (.aload_n 1, 1) := by decide +kernel
theorem tL_law_1376 {d : Nat} {l0 l2 l3 : Option Value} {x : Nat} {m : jmM} {Q : Option Value → jmM → Prop} : AW d 289 1376 [l0, some (.ref x), l2, l3] [] m Q ↔ AW d 289 1377 [l0, some (.ref x), l2, l3] [.ref x] m Q := A_aload_n hB_L_law dL_law_1376 rfl
theorem dL_law_1377 : decode cL_law 1377 = .ok (.aload_n 0, 1) := by decide +kernel
theorem tL_law_1377 {d : Nat} {l1 l2 l3 : Option Value} {v0 : Value} {x : Nat} {m : jmM} {Q : Option Value → jmM → Prop} : AW d 289 1377 [some (.ref x), l1, l2, l3] [v0] m Q ↔ AW d 289 1378 [some (.ref x), l1, l2, l3] [.ref x, v0] m Q := A_aload_n hB_L_law dL_law_1377 rfl
theorem dL_law_1378 : decode cL_law 1378 = .ok (.iload_n 3, 1) := by decide +kernel
theorem tL_law_1378 {d : Nat} {l0 l1 l2 : Option Value} {v0 v1 : Value} {x : Int32} {m : jmM} {Q : Option Value → jmM → Prop} : AW d 289 1378 [l0, l1, l2, some (.int x)] [v0, v1] m Q ↔ AW d 289 1379 [l0, l1, l2, some (.int x)] [.int x, v0, v1] m Q := A_iload_n hB_L_law dL_law_1378 rfl
theorem dL_law_1379 : decode cL_law 1379 = .ok (.iconst 1, 1) := by decide +kernel
theorem tL_law_1379 {d : Nat} {l0 l1 l2 l3 : Option Value} {v0 v1 v2 : Value} {m : jmM} {Q : Option Value → jmM → Prop} : AW d 289 1379 [l0, l1, l2, l3] [v0, v1, v2] m Q ↔ AW d 289 1380 [l0, l1, l2, l3] [.int 1, v0, v1, v2] m Q := A_iconst hB_L_law dL_law_1379 (by decide)
theorem dL_law_1380 : decode cL_law 1380 = .ok (.iadd, 1) := by decide +kernel
theorem tL_law_1380 {d : Nat} {l0 l1 l2 l3 : Option Value} {v2 v3 : Value} {x y : Int32} {m : jmM} {Q : Option Value → jmM → Prop} : AW d 289 1380 [l0, l1, l2, l3] [.int y, .int x, v2, v3] m Q ↔ AW d 289 1381 [l0, l1, l2, l3] [.int (x + y), v2, v3] m Q := A_iadd hB_L_law dL_law_1380
theorem dL_law_1381 : decode cL_law 1381 = .ok (.iaload, 1) := by decide +kernel
theorem tL_law_1381 {d : Nat} {l0 l1 l2 l3 : Option Value} {v2 : Value} {i : Int32} {a : Nat} {m : jmM} {Q : Option Value → jmM → Prop} : AW d 289 1381 [l0, l1, l2, l3] [.int i, .ref a, v2] m Q ↔ (((mS m a).1 = 20 ∨ a = jScr) ∧ jIx i (mS m a).2) ∧ AW d 289 1382 [l0, l1, l2, l3] [.int (mI m a (jx i)), v2] m Q := A_iaload hB_L_law dL_law_1381
theorem dL_law_1382 : decode cL_law 1382 = .ok (.invokevirtual 159, 3) := by decide +kernel
theorem tL_law_1382 {d : Nat} {l0 l1 l2 l3 : Option Value} {y0 : Value} {a : Nat} {m : jmM} {Q : Option Value → jmM → Prop} : AW d 289 1382 [l0, l1, l2, l3] [y0, .ref a] m Q ↔ (mS m a).1 = 11 ∧ CC d 175 [.ref a, y0] m (jK d 289 1385 [l0, l1, l2, l3] [] Q) := A_callV hB_L_law dL_law_1382 hO_L_law fS_13_159 ⟨Nat.le_of_ble_eq_true rfl, Nat.le_of_ble_eq_true rfl⟩ rfl rfl rfl
theorem dL_law_1385 : decode cL_law 1385 = .ok (.aload_n 2, 1) := by decide +kernel
theorem tL_law_1385 {d : Nat} {l0 l1 l3 : Option Value} {v0 : Value} {x : Nat} {m : jmM} {Q : Option Value → jmM → Prop} : AW d 289 1385 [l0, l1, some (.ref x), l3] [v0] m Q ↔ AW d 289 1386 [l0, l1, some (.ref x), l3] [.ref x, v0] m Q := A_aload_n hB_L_law dL_law_1385 rfl
theorem dL_law_1386 : decode cL_law 1386 = .ok (.aload_n 0, 1) := by decide +kernel
theorem tL_law_1386 {d : Nat} {l1 l2 l3 : Option Value} {v0 v1 : Value} {x : Nat} {m : jmM} {Q : Option Value → jmM → Prop} : AW d 289 1386 [some (.ref x), l1, l2, l3] [v0, v1] m Q ↔ AW d 289 1387 [some (.ref x), l1, l2, l3] [.ref x, v0, v1] m Q := A_aload_n hB_L_law dL_law_1386 rfl
theorem dL_law_1387 : decode cL_law 1387 = .ok (.iload_n 3, 1) := by decide +kernel
theorem tL_law_1387 {d : Nat} {l0 l1 l2 : Option Value} {v0 v1 v2 : Value} {x : Int32} {m : jmM} {Q : Option Value → jmM → Prop} : AW d 289 1387 [l0, l1, l2, some (.int x)] [v0, v1, v2] m Q ↔ AW d 289 1388 [l0, l1, l2, some (.int x)] [.int x, v0, v1, v2] m Q := A_iload_n hB_L_law dL_law_1387 rfl
theorem dL_law_1388 : decode cL_law 1388 = .ok (.iconst 1, 1) := by decide +kernel
theorem tL_law_1388 {d : Nat} {l0 l1 l2 l3 : Option Value} {v0 v1 v2 v3 : Value} {m : jmM} {Q : Option Value → jmM → Prop} : AW d 289 1388 [l0, l1, l2, l3] [v0, v1, v2, v3] m Q ↔ AW d 289 1389 [l0, l1, l2, l3] [.int 1, v0, v1, v2, v3] m Q := A_iconst hB_L_law dL_law_1388 (by decide)
theorem dL_law_1389 : decode cL_law 1389 = .ok (.iadd, 1) := by decide +kernel
theorem tL_law_1389 {d : Nat} {l0 l1 l2 l3 : Option Value} {v2 v3 v4 : Value} {x y : Int32} {m : jmM} {Q : Option Value → jmM → Prop} : AW d 289 1389 [l0, l1, l2, l3] [.int y, .int x, v2, v3, v4] m Q ↔ AW d 289 1390 [l0, l1, l2, l3] [.int (x + y), v2, v3, v4] m Q := A_iadd hB_L_law dL_law_1389
theorem dL_law_1390 : decode cL_law 1390 = .ok (.iaload, 1) := by decide +kernel
theorem tL_law_1390 {d : Nat} {l0 l1 l2 l3 : Option Value} {v2 v3 : Value} {i : Int32} {a : Nat} {m : jmM} {Q : Option Value → jmM → Prop} : AW d 289 1390 [l0, l1, l2, l3] [.int i, .ref a, v2, v3] m Q ↔ (((mS m a).1 = 20 ∨ a = jScr) ∧ jIx i (mS m a).2) ∧ AW d 289 1391 [l0, l1, l2, l3] [.int (mI m a (jx i)), v2, v3] m Q := A_iaload hB_L_law dL_law_1390
theorem dL_law_1391 : decode cL_law 1391 = .ok (.invokevirtual 162, 3) := by decide +kernel
theorem tL_law_1391 {d : Nat} {l0 l1 l2 l3 : Option Value} {v2 : Value} {y0 : Value} {a : Nat} {m : jmM} {Q : Option Value → jmM → Prop} : AW d 289 1391 [l0, l1, l2, l3] [y0, .ref a, v2] m Q ↔ (mS m a).1 = 12 ∧ CC d 276 [.ref a, y0] m (jK d 289 1394 [l0, l1, l2, l3] [v2] Q) := A_callV hB_L_law dL_law_1391 hO_L_law fS_13_162 ⟨Nat.le_of_ble_eq_true rfl, Nat.le_of_ble_eq_true rfl⟩ rfl rfl rfl
theorem dL_law_1394 : decode cL_law 1394 = .ok (.if_icmp .eq 28, 3) := by decide +kernel
theorem tL_law_1394 {d : Nat} {l0 l1 l2 l3 : Option Value} {x y : Int32} {m : jmM} {Q : Option Value → jmM → Prop} : AW d 289 1394 [l0, l1, l2, l3] [.int y, .int x] m Q ↔ if x = y then AW d 289 1422 [l0, l1, l2, l3] [] m Q else AW d 289 1397 [l0, l1, l2, l3] [] m Q := A_icmp_eq hB_L_law dL_law_1394 (by decide)
theorem dL_law_1397 : decode cL_law 1397 = .ok (.iconst 0, 1) := by decide +kernel
theorem tL_law_1397 {d : Nat} {l0 l1 l2 l3 : Option Value} {m : jmM} {Q : Option Value → jmM → Prop} : AW d 289 1397 [l0, l1, l2, l3] [] m Q ↔ AW d 289 1398 [l0, l1, l2, l3] [.int 0] m Q := A_iconst hB_L_law dL_law_1397 (by decide)
theorem dL_law_1398 : decode cL_law 1398 = .ok (.ireturn, 1) := by decide +kernel
theorem tL_law_1398 {d : Nat} {l0 l1 l2 l3 : Option Value} {x : Int32} {m : jmM} {Q : Option Value → jmM → Prop} : AW d 289 1398 [l0, l1, l2, l3] [.int x] m Q ↔ jBool x ∧ Q (some (.int x)) m := A_zreturn hB_L_law dL_law_1398 hR_L_law
theorem dL_law_1399 : decode cL_law 1399 = .ok (.aload_n 1, 1) := by decide +kernel
theorem tL_law_1399 {d : Nat} {l0 l2 l3 : Option Value} {x : Nat} {m : jmM} {Q : Option Value → jmM → Prop} : AW d 289 1399 [l0, some (.ref x), l2, l3] [] m Q ↔ AW d 289 1400 [l0, some (.ref x), l2, l3] [.ref x] m Q := A_aload_n hB_L_law dL_law_1399 rfl
theorem dL_law_1400 : decode cL_law 1400 = .ok (.aload_n 0, 1) := by decide +kernel
theorem tL_law_1400 {d : Nat} {l1 l2 l3 : Option Value} {v0 : Value} {x : Nat} {m : jmM} {Q : Option Value → jmM → Prop} : AW d 289 1400 [some (.ref x), l1, l2, l3] [v0] m Q ↔ AW d 289 1401 [some (.ref x), l1, l2, l3] [.ref x, v0] m Q := A_aload_n hB_L_law dL_law_1400 rfl
theorem dL_law_1401 : decode cL_law 1401 = .ok (.iload_n 3, 1) := by decide +kernel
theorem tL_law_1401 {d : Nat} {l0 l1 l2 : Option Value} {v0 v1 : Value} {x : Int32} {m : jmM} {Q : Option Value → jmM → Prop} : AW d 289 1401 [l0, l1, l2, some (.int x)] [v0, v1] m Q ↔ AW d 289 1402 [l0, l1, l2, some (.int x)] [.int x, v0, v1] m Q := A_iload_n hB_L_law dL_law_1401 rfl
theorem dL_law_1402 : decode cL_law 1402 = .ok (.iconst 1, 1) := by decide +kernel
theorem tL_law_1402 {d : Nat} {l0 l1 l2 l3 : Option Value} {v0 v1 v2 : Value} {m : jmM} {Q : Option Value → jmM → Prop} : AW d 289 1402 [l0, l1, l2, l3] [v0, v1, v2] m Q ↔ AW d 289 1403 [l0, l1, l2, l3] [.int 1, v0, v1, v2] m Q := A_iconst hB_L_law dL_law_1402 (by decide)
theorem dL_law_1403 : decode cL_law 1403 = .ok (.iadd, 1) := by decide +kernel
theorem tL_law_1403 {d : Nat} {l0 l1 l2 l3 : Option Value} {v2 v3 : Value} {x y : Int32} {m : jmM} {Q : Option Value → jmM → Prop} : AW d 289 1403 [l0, l1, l2, l3] [.int y, .int x, v2, v3] m Q ↔ AW d 289 1404 [l0, l1, l2, l3] [.int (x + y), v2, v3] m Q := A_iadd hB_L_law dL_law_1403
theorem dL_law_1404 : decode cL_law 1404 = .ok (.iaload, 1) := by decide +kernel
theorem tL_law_1404 {d : Nat} {l0 l1 l2 l3 : Option Value} {v2 : Value} {i : Int32} {a : Nat} {m : jmM} {Q : Option Value → jmM → Prop} : AW d 289 1404 [l0, l1, l2, l3] [.int i, .ref a, v2] m Q ↔ (((mS m a).1 = 20 ∨ a = jScr) ∧ jIx i (mS m a).2) ∧ AW d 289 1405 [l0, l1, l2, l3] [.int (mI m a (jx i)), v2] m Q := A_iaload hB_L_law dL_law_1404
theorem dL_law_1405 : decode cL_law 1405 = .ok (.invokevirtual 163, 3) := by decide +kernel
theorem tL_law_1405 {d : Nat} {l0 l1 l2 l3 : Option Value} {y0 : Value} {a : Nat} {m : jmM} {Q : Option Value → jmM → Prop} : AW d 289 1405 [l0, l1, l2, l3] [y0, .ref a] m Q ↔ (mS m a).1 = 11 ∧ CC d 176 [.ref a, y0] m (jK d 289 1408 [l0, l1, l2, l3] [] Q) := A_callV hB_L_law dL_law_1405 hO_L_law fS_13_163 ⟨Nat.le_of_ble_eq_true rfl, Nat.le_of_ble_eq_true rfl⟩ rfl rfl rfl
theorem dL_law_1408 : decode cL_law 1408 = .ok (.aload_n 2, 1) := by decide +kernel
theorem tL_law_1408 {d : Nat} {l0 l1 l3 : Option Value} {v0 : Value} {x : Nat} {m : jmM} {Q : Option Value → jmM → Prop} : AW d 289 1408 [l0, l1, some (.ref x), l3] [v0] m Q ↔ AW d 289 1409 [l0, l1, some (.ref x), l3] [.ref x, v0] m Q := A_aload_n hB_L_law dL_law_1408 rfl
theorem dL_law_1409 : decode cL_law 1409 = .ok (.aload_n 0, 1) := by decide +kernel
theorem tL_law_1409 {d : Nat} {l1 l2 l3 : Option Value} {v0 v1 : Value} {x : Nat} {m : jmM} {Q : Option Value → jmM → Prop} : AW d 289 1409 [some (.ref x), l1, l2, l3] [v0, v1] m Q ↔ AW d 289 1410 [some (.ref x), l1, l2, l3] [.ref x, v0, v1] m Q := A_aload_n hB_L_law dL_law_1409 rfl
theorem dL_law_1410 : decode cL_law 1410 = .ok (.iload_n 3, 1) := by decide +kernel
theorem tL_law_1410 {d : Nat} {l0 l1 l2 : Option Value} {v0 v1 v2 : Value} {x : Int32} {m : jmM} {Q : Option Value → jmM → Prop} : AW d 289 1410 [l0, l1, l2, some (.int x)] [v0, v1, v2] m Q ↔ AW d 289 1411 [l0, l1, l2, some (.int x)] [.int x, v0, v1, v2] m Q := A_iload_n hB_L_law dL_law_1410 rfl
theorem dL_law_1411 : decode cL_law 1411 = .ok (.iconst 1, 1) := by decide +kernel
theorem tL_law_1411 {d : Nat} {l0 l1 l2 l3 : Option Value} {v0 v1 v2 v3 : Value} {m : jmM} {Q : Option Value → jmM → Prop} : AW d 289 1411 [l0, l1, l2, l3] [v0, v1, v2, v3] m Q ↔ AW d 289 1412 [l0, l1, l2, l3] [.int 1, v0, v1, v2, v3] m Q := A_iconst hB_L_law dL_law_1411 (by decide)
theorem dL_law_1412 : decode cL_law 1412 = .ok (.iadd, 1) := by decide +kernel
theorem tL_law_1412 {d : Nat} {l0 l1 l2 l3 : Option Value} {v2 v3 v4 : Value} {x y : Int32} {m : jmM} {Q : Option Value → jmM → Prop} : AW d 289 1412 [l0, l1, l2, l3] [.int y, .int x, v2, v3, v4] m Q ↔ AW d 289 1413 [l0, l1, l2, l3] [.int (x + y), v2, v3, v4] m Q := A_iadd hB_L_law dL_law_1412
theorem dL_law_1413 : decode cL_law 1413 = .ok (.iaload, 1) := by decide +kernel
theorem tL_law_1413 {d : Nat} {l0 l1 l2 l3 : Option Value} {v2 v3 : Value} {i : Int32} {a : Nat} {m : jmM} {Q : Option Value → jmM → Prop} : AW d 289 1413 [l0, l1, l2, l3] [.int i, .ref a, v2, v3] m Q ↔ (((mS m a).1 = 20 ∨ a = jScr) ∧ jIx i (mS m a).2) ∧ AW d 289 1414 [l0, l1, l2, l3] [.int (mI m a (jx i)), v2, v3] m Q := A_iaload hB_L_law dL_law_1413
theorem dL_law_1414 : decode cL_law 1414 = .ok (.invokevirtual 166, 3) := by decide +kernel
theorem tL_law_1414 {d : Nat} {l0 l1 l2 l3 : Option Value} {v2 : Value} {y0 : Value} {a : Nat} {m : jmM} {Q : Option Value → jmM → Prop} : AW d 289 1414 [l0, l1, l2, l3] [y0, .ref a, v2] m Q ↔ (mS m a).1 = 12 ∧ CC d 277 [.ref a, y0] m (jK d 289 1417 [l0, l1, l2, l3] [v2] Q) := A_callV hB_L_law dL_law_1414 hO_L_law fS_13_166 ⟨Nat.le_of_ble_eq_true rfl, Nat.le_of_ble_eq_true rfl⟩ rfl rfl rfl
theorem dL_law_1417 : decode cL_law 1417 = .ok (.if_icmp .eq 5, 3) := by decide +kernel
theorem tL_law_1417 {d : Nat} {l0 l1 l2 l3 : Option Value} {x y : Int32} {m : jmM} {Q : Option Value → jmM → Prop} : AW d 289 1417 [l0, l1, l2, l3] [.int y, .int x] m Q ↔ if x = y then AW d 289 1422 [l0, l1, l2, l3] [] m Q else AW d 289 1420 [l0, l1, l2, l3] [] m Q := A_icmp_eq hB_L_law dL_law_1417 (by decide)
theorem dL_law_1420 : decode cL_law 1420 = .ok (.iconst 0, 1) := by decide +kernel
theorem tL_law_1420 {d : Nat} {l0 l1 l2 l3 : Option Value} {m : jmM} {Q : Option Value → jmM → Prop} : AW d 289 1420 [l0, l1, l2, l3] [] m Q ↔ AW d 289 1421 [l0, l1, l2, l3] [.int 0] m Q := A_iconst hB_L_law dL_law_1420 (by decide)
theorem dL_law_1421 : decode cL_law 1421 = .ok (.ireturn, 1) := by decide +kernel
theorem tL_law_1421 {d : Nat} {l0 l1 l2 l3 : Option Value} {x : Int32} {m : jmM} {Q : Option Value → jmM → Prop} : AW d 289 1421 [l0, l1, l2, l3] [.int x] m Q ↔ jBool x ∧ Q (some (.int x)) m := A_zreturn hB_L_law dL_law_1421 hR_L_law
theorem dL_law_1422 : decode cL_law 1422 = .ok (.iinc 3 10, 3) := by decide +kernel
theorem tL_law_1422 {d : Nat} {l0 l1 l2 : Option Value} {x : Int32} {m : jmM} {Q : Option Value → jmM → Prop} : AW d 289 1422 [l0, l1, l2, some (.int x)] [] m Q ↔ AW d 289 1425 [l0, l1, jc1 l2, some (.int (x + 10))] [] m Q := A_iinc hB_L_law dL_law_1422 rfl (Nat.le_of_ble_eq_true rfl) (v := 10) (by decide) rfl
theorem dL_law_1425 : decode cL_law 1425 = .ok (.goto (-1407), 3) := by decide +kernel
theorem tL_law_1425 {d : Nat} {l0 l1 l2 l3 : Option Value} {m : jmM} {Q : Option Value → jmM → Prop} : AW d 289 1425 [l0, l1, l2, l3] [] m Q ↔ AW d 289 18 [l0, l1, l2, l3] [] m Q := A_goto hB_L_law dL_law_1425 (by decide)
theorem dL_law_1428 : decode cL_law 1428 = .ok (.iconst 1, 1) := by decide +kernel
theorem tL_law_1428 {d : Nat} {l0 l1 l2 l3 : Option Value} {m : jmM} {Q : Option Value → jmM → Prop} : AW d 289 1428 [l0, l1, l2, l3] [] m Q ↔ AW d 289 1429 [l0, l1, l2, l3] [.int 1] m Q := A_iconst hB_L_law dL_law_1428 (by decide)
theorem dL_law_1429 : decode cL_law 1429 = .ok (.ireturn, 1) := by decide +kernel
theorem tL_law_1429 {d : Nat} {l0 l1 l2 l3 : Option Value} {x : Int32} {m : jmM} {Q : Option Value → jmM → Prop} : AW d 289 1429 [l0, l1, l2, l3] [.int x] m Q ↔ jBool x ∧ Q (some (.int x)) m := A_zreturn hB_L_law dL_law_1429 hR_L_law
