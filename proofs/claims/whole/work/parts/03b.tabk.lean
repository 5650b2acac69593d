theorem k_code (j : Nat) (h : j < 289) : lw_tbl[jP j]? = some (.code (jY j) (jB j) (jMl j) (jRt j)) := by
  rcases Nat.lt_or_ge j 17 with h0 | h0
  · exact k_codes_0 j (show j ∈ List.range' 0 17 from List.mem_range'_1.mpr ⟨by omega, by omega⟩)
  rcases Nat.lt_or_ge j 34 with h1 | h1
  · exact k_codes_1 j (show j ∈ List.range' 17 17 from List.mem_range'_1.mpr ⟨by omega, by omega⟩)
  rcases Nat.lt_or_ge j 51 with h2 | h2
  · exact k_codes_2 j (show j ∈ List.range' 34 17 from List.mem_range'_1.mpr ⟨by omega, by omega⟩)
  rcases Nat.lt_or_ge j 68 with h3 | h3
  · exact k_codes_3 j (show j ∈ List.range' 51 17 from List.mem_range'_1.mpr ⟨by omega, by omega⟩)
  rcases Nat.lt_or_ge j 85 with h4 | h4
  · exact k_codes_4 j (show j ∈ List.range' 68 17 from List.mem_range'_1.mpr ⟨by omega, by omega⟩)
  rcases Nat.lt_or_ge j 102 with h5 | h5
  · exact k_codes_5 j (show j ∈ List.range' 85 17 from List.mem_range'_1.mpr ⟨by omega, by omega⟩)
  rcases Nat.lt_or_ge j 119 with h6 | h6
  · exact k_codes_6 j (show j ∈ List.range' 102 17 from List.mem_range'_1.mpr ⟨by omega, by omega⟩)
  rcases Nat.lt_or_ge j 136 with h7 | h7
  · exact k_codes_7 j (show j ∈ List.range' 119 17 from List.mem_range'_1.mpr ⟨by omega, by omega⟩)
  rcases Nat.lt_or_ge j 153 with h8 | h8
  · exact k_codes_8 j (show j ∈ List.range' 136 17 from List.mem_range'_1.mpr ⟨by omega, by omega⟩)
  rcases Nat.lt_or_ge j 170 with h9 | h9
  · exact k_codes_9 j (show j ∈ List.range' 153 17 from List.mem_range'_1.mpr ⟨by omega, by omega⟩)
  rcases Nat.lt_or_ge j 187 with h10 | h10
  · exact k_codes_10 j (show j ∈ List.range' 170 17 from List.mem_range'_1.mpr ⟨by omega, by omega⟩)
  rcases Nat.lt_or_ge j 204 with h11 | h11
  · exact k_codes_11 j (show j ∈ List.range' 187 17 from List.mem_range'_1.mpr ⟨by omega, by omega⟩)
  rcases Nat.lt_or_ge j 221 with h12 | h12
  · exact k_codes_12 j (show j ∈ List.range' 204 17 from List.mem_range'_1.mpr ⟨by omega, by omega⟩)
  rcases Nat.lt_or_ge j 238 with h13 | h13
  · exact k_codes_13 j (show j ∈ List.range' 221 17 from List.mem_range'_1.mpr ⟨by omega, by omega⟩)
  rcases Nat.lt_or_ge j 255 with h14 | h14
  · exact k_codes_14 j (show j ∈ List.range' 238 17 from List.mem_range'_1.mpr ⟨by omega, by omega⟩)
  rcases Nat.lt_or_ge j 272 with h15 | h15
  · exact k_codes_15 j (show j ∈ List.range' 255 17 from List.mem_range'_1.mpr ⟨by omega, by omega⟩)
  rcases Nat.lt_or_ge j 289 with h16 | h16
  · exact k_codes_16 j (show j ∈ List.range' 272 17 from List.mem_range'_1.mpr ⟨by omega, by omega⟩)
  · omega
theorem k_np (j : Nat) (h : j < 289) : (parseMethodDescriptor (jY j).desc).map (fun d => d.parameters.length) = some (jNp j) := by
  rcases Nat.lt_or_ge j 40 with h0 | h0
  · exact k_np_0 j (show j ∈ List.range' 0 40 from List.mem_range'_1.mpr ⟨by omega, by omega⟩)
  rcases Nat.lt_or_ge j 80 with h1 | h1
  · exact k_np_1 j (show j ∈ List.range' 40 40 from List.mem_range'_1.mpr ⟨by omega, by omega⟩)
  rcases Nat.lt_or_ge j 120 with h2 | h2
  · exact k_np_2 j (show j ∈ List.range' 80 40 from List.mem_range'_1.mpr ⟨by omega, by omega⟩)
  rcases Nat.lt_or_ge j 160 with h3 | h3
  · exact k_np_3 j (show j ∈ List.range' 120 40 from List.mem_range'_1.mpr ⟨by omega, by omega⟩)
  rcases Nat.lt_or_ge j 200 with h4 | h4
  · exact k_np_4 j (show j ∈ List.range' 160 40 from List.mem_range'_1.mpr ⟨by omega, by omega⟩)
  rcases Nat.lt_or_ge j 240 with h5 | h5
  · exact k_np_5 j (show j ∈ List.range' 200 40 from List.mem_range'_1.mpr ⟨by omega, by omega⟩)
  rcases Nat.lt_or_ge j 280 with h6 | h6
  · exact k_np_6 j (show j ∈ List.range' 240 40 from List.mem_range'_1.mpr ⟨by omega, by omega⟩)
  rcases Nat.lt_or_ge j 289 with h7 | h7
  · exact k_np_7 j (show j ∈ List.range' 280 9 from List.mem_range'_1.mpr ⟨by omega, by omega⟩)
  · omega
theorem k_jm (j : Nat) (h : j < 289) : (jY j).cls = jRN (jO j) ∧ jO j < 13 ∧ plainName (jY j).cls = true ∧ jMl j ≤ 45 ∧ (jY j).cls ≠ "java/lang/invoke/MethodHandle" ∧ (jY j).cls ≠ "java/lang/invoke/VarHandle" := by
  rcases Nat.lt_or_ge j 40 with h0 | h0
  · exact k_jm_0 j (show j ∈ List.range' 0 40 from List.mem_range'_1.mpr ⟨by omega, by omega⟩)
  rcases Nat.lt_or_ge j 80 with h1 | h1
  · exact k_jm_1 j (show j ∈ List.range' 40 40 from List.mem_range'_1.mpr ⟨by omega, by omega⟩)
  rcases Nat.lt_or_ge j 120 with h2 | h2
  · exact k_jm_2 j (show j ∈ List.range' 80 40 from List.mem_range'_1.mpr ⟨by omega, by omega⟩)
  rcases Nat.lt_or_ge j 160 with h3 | h3
  · exact k_jm_3 j (show j ∈ List.range' 120 40 from List.mem_range'_1.mpr ⟨by omega, by omega⟩)
  rcases Nat.lt_or_ge j 200 with h4 | h4
  · exact k_jm_4 j (show j ∈ List.range' 160 40 from List.mem_range'_1.mpr ⟨by omega, by omega⟩)
  rcases Nat.lt_or_ge j 240 with h5 | h5
  · exact k_jm_5 j (show j ∈ List.range' 200 40 from List.mem_range'_1.mpr ⟨by omega, by omega⟩)
  rcases Nat.lt_or_ge j 280 with h6 | h6
  · exact k_jm_6 j (show j ∈ List.range' 240 40 from List.mem_range'_1.mpr ⟨by omega, by omega⟩)
  rcases Nat.lt_or_ge j 289 with h7 | h7
  · exact k_jm_7 j (show j ∈ List.range' 280 9 from List.mem_range'_1.mpr ⟨by omega, by omega⟩)
  · omega
theorem k_iMath : lw_tbl[100]? = some (.initialized "java/lang/Math") := by decide +kernel
theorem k_iSys : lw_tbl[113]? = some (.initialized "java/lang/System") := by decide +kernel
