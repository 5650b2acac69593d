/-! the String premises, by their places -/
def js0 : List Nat := [106, 111, 113, 115, 117, 119, 161, 163, 165, 167, 169, 171, 93, 134, 132, 124]
def jtm (i : Nat) : Term := .string "PulledCrystal$Reader" (js0.getD i 0)
def jFl1 : List Cond := flatC (Jvm.Cond.and given_1 narrow_1)
def js_Lex : List (Nat × Nat) := [(0, 48), (1, 56), (2, 65), (3, 75), (4, 87), (5, 99), (6, 113), (7, 129), (8, 144), (9, 159), (10, 176), (11, 194), (12, 213), (13, 231), (14, 251), (15, 272)]
def js_Lco : List (Nat × Nat) := [(0, 49), (1, 57), (2, 66), (3, 76), (4, 88), (5, 100), (6, 114), (7, 130), (8, 145), (9, 160), (10, 177), (11, 195), (12, 214), (13, 232), (14, 252), (15, 273)]
def js_Lar : List (Nat × Nat) := [(0, 50), (1, 58), (2, 67), (3, 77), (4, 89), (5, 101), (6, 115), (7, 131), (8, 146), (9, 161), (10, 178), (11, 196), (12, 215), (13, 233), (14, 253), (15, 274)]
def js_Lle : List (Nat × Nat) := [(0, 51), (1, 59), (2, 68), (3, 78), (4, 90), (5, 102), (6, 116), (7, 132), (8, 147), (9, 162), (10, 179), (11, 197), (12, 216), (13, 234), (14, 254), (15, 275)]
def js_Lel : List (Nat × Nat × Nat) := [(0, 0, 52), (0, 1, 53), (0, 2, 54), (0, 3, 55), (1, 0, 60), (1, 1, 61), (1, 2, 62), (1, 3, 63), (2, 0, 69), (2, 1, 70), (2, 2, 71), (2, 3, 72), (3, 0, 79), (3, 1, 80), (3, 2, 81), (3, 3, 82), (3, 4, 83), (4, 0, 91), (4, 1, 92), (4, 2, 93), (4, 3, 94), (5, 0, 103), (5, 1, 104), (5, 2, 105), (5, 3, 106), (5, 4, 107), (6, 0, 117), (6, 1, 118), (6, 2, 119), (6, 3, 120), (6, 4, 121), (6, 5, 122), (7, 0, 133), (7, 1, 134), (7, 2, 135), (7, 3, 136), (8, 0, 148), (8, 1, 149), (8, 2, 150), (9, 0, 163), (9, 1, 164), (9, 2, 165), (9, 3, 166), (10, 0, 180), (10, 1, 181), (10, 2, 182), (10, 3, 183), (11, 0, 198), (11, 1, 199), (11, 2, 200), (11, 3, 201), (12, 0, 217), (12, 1, 218), (13, 0, 235), (13, 1, 236), (13, 2, 237), (14, 0, 255), (14, 1, 256), (14, 2, 257), (15, 0, 276), (15, 1, 277)]
def js_Lne : List (Nat × Nat × Nat) := [(0, 1, 64), (0, 2, 73), (0, 3, 84), (0, 4, 95), (0, 5, 108), (0, 6, 123), (0, 7, 137), (0, 8, 151), (0, 9, 167), (0, 10, 184), (0, 11, 202), (0, 12, 219), (0, 13, 238), (0, 14, 258), (0, 15, 278), (1, 2, 74), (1, 3, 85), (1, 4, 96), (1, 5, 109), (1, 6, 124), (1, 7, 138), (1, 8, 152), (1, 9, 168), (1, 10, 185), (1, 11, 203), (1, 12, 220), (1, 13, 239), (1, 14, 259), (1, 15, 279), (2, 3, 86), (2, 4, 97), (2, 5, 110), (2, 6, 125), (2, 7, 139), (2, 8, 153), (2, 9, 169), (2, 10, 186), (2, 11, 204), (2, 12, 221), (2, 13, 240), (2, 14, 260), (2, 15, 280), (3, 4, 98), (3, 5, 111), (3, 6, 126), (3, 7, 140), (3, 8, 154), (3, 9, 170), (3, 10, 187), (3, 11, 205), (3, 12, 222), (3, 13, 241), (3, 14, 261), (3, 15, 281), (4, 5, 112), (4, 6, 127), (4, 7, 141), (4, 8, 155), (4, 9, 171), (4, 10, 188), (4, 11, 206), (4, 12, 223), (4, 13, 242), (4, 14, 262), (4, 15, 282), (5, 6, 128), (5, 7, 142), (5, 8, 156), (5, 9, 172), (5, 10, 189), (5, 11, 207), (5, 12, 224), (5, 13, 243), (5, 14, 263), (5, 15, 283), (6, 7, 143), (6, 8, 157), (6, 9, 173), (6, 10, 190), (6, 11, 208), (6, 12, 225), (6, 13, 244), (6, 14, 264), (6, 15, 284), (7, 8, 158), (7, 9, 174), (7, 10, 191), (7, 11, 209), (7, 12, 226), (7, 13, 245), (7, 14, 265), (7, 15, 285), (8, 9, 175), (8, 10, 192), (8, 11, 210), (8, 12, 227), (8, 13, 246), (8, 14, 266), (8, 15, 286), (9, 10, 193), (9, 11, 211), (9, 12, 228), (9, 13, 247), (9, 14, 267), (9, 15, 287), (10, 11, 212), (10, 12, 229), (10, 13, 248), (10, 14, 268), (10, 15, 288), (11, 12, 230), (11, 13, 249), (11, 14, 269), (11, 15, 289), (12, 13, 250), (12, 14, 270), (12, 15, 290), (13, 14, 271), (13, 15, 291), (14, 15, 292)]
theorem js_ex1 : ∀ q ∈ js_Lex, jFl1[q.2]? = some (Cond.exactly (jtm q.1) "java/lang/String") := by decide +kernel
theorem js_co1 : ∀ q ∈ js_Lco, jFl1[q.2]? = some (Cond.eq (.field (jtm q.1) "java/lang/String" "coder" "B") (.int 0)) := by decide +kernel
theorem js_ar1 : ∀ q ∈ js_Lar, jFl1[q.2]? = some (Cond.arrayOf (.field (jtm q.1) "java/lang/String" "value" "[B") .byte) := by decide +kernel
theorem js_le1 : ∀ q ∈ js_Lle, jFl1[q.2]? = some (Cond.eq (.length (.field (jtm q.1) "java/lang/String" "value" "[B")) (.int (Int32.ofNat ((jCh.map List.length).getD q.1 0)))) := by decide +kernel
theorem js_el1 : ∀ q ∈ js_Lel, jFl1[q.2.2]? = some (Cond.eq (.elem (.field (jtm q.1) "java/lang/String" "value" "[B") (.int (Int32.ofNat q.2.1))) (.int ((jCh.getD q.1 []).getD q.2.1 0))) := by decide +kernel
theorem js_ne1 : ∀ q ∈ js_Lne, jFl1[q.2.2]? = some (Cond.not (Cond.eq (jtm q.1) (jtm q.2.1))) := by decide +kernel
theorem js_ex2 : ∀ i ∈ List.range 16, (i, (js_Lex.getD i (0, 0)).2) ∈ js_Lex := by decide +kernel
theorem js_co2 : ∀ i ∈ List.range 16, (i, (js_Lco.getD i (0, 0)).2) ∈ js_Lco := by decide +kernel
theorem js_ar2 : ∀ i ∈ List.range 16, (i, (js_Lar.getD i (0, 0)).2) ∈ js_Lar := by decide +kernel
theorem js_le2 : ∀ i ∈ List.range 16, (i, (js_Lle.getD i (0, 0)).2) ∈ js_Lle := by decide +kernel
theorem js_el2 : ∀ i ∈ List.range 16, ∀ j ∈ List.range ((jCh.map List.length).getD i 0), (js_Lel.find? (fun q => q.1 == i && q.2.1 == j)).isSome = true := by decide +kernel
theorem js_ne2 : ∀ i ∈ List.range 16, ∀ j ∈ List.range 16, i ≠ j → (js_Lne.find? (fun q => q.1 == i && q.2.1 == j)).isSome = true ∨ (js_Lne.find? (fun q => q.1 == j && q.2.1 == i)).isSome = true := by decide +kernel
theorem js_find {l : List (Nat × Nat × Nat)} {i j : Nat} (h : (l.find? (fun q => q.1 == i && q.2.1 == j)).isSome = true) : ∃ k, (i, j, k) ∈ l := by
  obtain ⟨q, hq⟩ := Option.isSome_iff_exists.mp h
  have h1 := List.find?_some hq
  have h2 := List.mem_of_find?_eq_some hq
  obtain ⟨x, y, z⟩ := q
  simp only [Bool.and_eq_true, beq_iff_eq] at h1
  exact ⟨z, by rw [← h1.1, ← h1.2]; exact h2⟩
theorem js_ex (i : Nat) (hi : i ∈ List.range 16) : Cond.exactly (jtm i) "java/lang/String" ∈ jFl1 := List.mem_of_getElem? (js_ex1 _ (js_ex2 i hi))
theorem js_co (i : Nat) (hi : i ∈ List.range 16) : Cond.eq (.field (jtm i) "java/lang/String" "coder" "B") (.int 0) ∈ jFl1 := List.mem_of_getElem? (js_co1 _ (js_co2 i hi))
theorem js_ar (i : Nat) (hi : i ∈ List.range 16) : Cond.arrayOf (.field (jtm i) "java/lang/String" "value" "[B") .byte ∈ jFl1 := List.mem_of_getElem? (js_ar1 _ (js_ar2 i hi))
theorem js_le (i : Nat) (hi : i ∈ List.range 16) : Cond.eq (.length (.field (jtm i) "java/lang/String" "value" "[B")) (.int (Int32.ofNat ((jCh.map List.length).getD i 0))) ∈ jFl1 := List.mem_of_getElem? (js_le1 _ (js_le2 i hi))
theorem js_el (i : Nat) (hi : i ∈ List.range 16) (j : Nat) (hj : j ∈ List.range ((jCh.map List.length).getD i 0)) : Cond.eq (.elem (.field (jtm i) "java/lang/String" "value" "[B") (.int (Int32.ofNat j))) (.int ((jCh.getD i []).getD j 0)) ∈ jFl1 := by
  obtain ⟨k, hk⟩ := js_find (js_el2 i hi j hj)
  exact List.mem_of_getElem? (js_el1 _ hk)
theorem js_ne (i : Nat) (hi : i ∈ List.range 16) (j : Nat) (hj : j ∈ List.range 16) (h : i ≠ j) : Cond.not (Cond.eq (jtm i) (jtm j)) ∈ jFl1 ∨ Cond.not (Cond.eq (jtm j) (jtm i)) ∈ jFl1 := by
  rcases js_ne2 i hi j hj h with h1 | h1
  · obtain ⟨k, hk⟩ := js_find h1
    exact Or.inl (List.mem_of_getElem? (js_ne1 _ hk))
  · obtain ⟨k, hk⟩ := js_find h1
    exact Or.inr (List.mem_of_getElem? (js_ne1 _ hk))
theorem js_cs0 : jFl1[4]? = some (Cond.eq (.static "java/lang/String" "COMPACT_STRINGS" "Z") (.int 1)) := by decide +kernel
theorem js_si0 : jFl1[5]? = some (Cond.isRef (.static "jdk/internal/util/Preconditions" "SIOOBE_FORMATTER" "Ljava/util/function/BiFunction;")) := by decide +kernel
theorem js_cs : Cond.eq (.static "java/lang/String" "COMPACT_STRINGS" "Z") (.int 1) ∈ jFl1 := List.mem_of_getElem? js_cs0
theorem js_si : Cond.isRef (.static "jdk/internal/util/Preconditions" "SIOOBE_FORMATTER" "Ljava/util/function/BiFunction;") ∈ jFl1 := List.mem_of_getElem? js_si0
