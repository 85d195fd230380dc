set_option maxRecDepth 20000 in
theorem tin_X0 : ∀ w ∈ wsX00, w ∈ lw_tbl := by decide +kernel
set_option maxRecDepth 20000 in
theorem tin_X3 : ∀ w ∈ wsX30, w ∈ lw_tbl := by decide +kernel
set_option maxRecDepth 20000 in
theorem tin_X4 : ∀ w ∈ wsX40, w ∈ lw_tbl := by decide +kernel
set_option maxRecDepth 20000 in
theorem tin_X6 : ∀ w ∈ wsX60, w ∈ lw_tbl := by decide +kernel
theorem zsub : ∀ w ∈ zall, w ∈ lw_tbl := by
  intro w h
  rcases List.mem_append.mp h with h | h
  · exact tin__r1 w h
  rcases List.mem_append.mp h with h | h
  · exact tin__r2 w h
  rcases List.mem_append.mp h with h | h
  · exact tin__r3 w h
  rcases List.mem_append.mp h with h | h
  · exact tin__r4 w h
  rcases List.mem_append.mp h with h | h
  · exact tin__r5 w h
  rcases List.mem_append.mp h with h | h
  · exact tin__r6 w h
  rcases List.mem_append.mp h with h | h
  · exact tin__r7 w h
  rcases List.mem_append.mp h with h | h
  · exact tin__r8 w h
  rcases List.mem_append.mp h with h | h
  · exact tin__r9 w h
  rcases List.mem_append.mp h with h | h
  · exact tin__r10 w h
  rcases List.mem_append.mp h with h | h
  · exact tin__r11 w h
  rcases List.mem_append.mp h with h | h
  · exact tin__r12 w h
  rcases List.mem_append.mp h with h | h
  · exact tin__r13 w h
  rcases List.mem_append.mp h with h | h
  · exact tin__r14 w h
  rcases List.mem_append.mp h with h | h
  · exact tin__r15 w h
  rcases List.mem_append.mp h with h | h
  · exact tin__r16 w h
  rcases List.mem_append.mp h with h | h
  · exact tin_X0 w h
  rcases List.mem_append.mp h with h | h
  · exact tin_X3 w h
  rcases List.mem_append.mp h with h | h
  · exact tin_X4 w h
  exact tin_X6 w h
