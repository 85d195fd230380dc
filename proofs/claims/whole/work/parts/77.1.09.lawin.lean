theorem zsub : ∀ w ∈ zall, w ∈ lw_tbl := by
  intro w h
  rcases List.mem_append.mp h with h | h
  · exact tin__r1 w h
  rcases List.mem_append.mp h with h | h
  · exact tin__r2 w h
  rcases List.mem_append.mp h with h | h
  · exact tin__r3 w h
  rcases List.mem_append.mp h with h | h
  · exact tin__r4 w h
  rcases List.mem_append.mp h with h | h
  · exact tin__r5 w h
  rcases List.mem_append.mp h with h | h
  · exact tin__r6 w h
  rcases List.mem_append.mp h with h | h
  · exact tin__r7 w h
  rcases List.mem_append.mp h with h | h
  · exact tin__r8 w h
  rcases List.mem_append.mp h with h | h
  · exact tin__r9 w h
  rcases List.mem_append.mp h with h | h
  · exact tin__r10 w h
  rcases List.mem_append.mp h with h | h
  · exact tin__r11 w h
  rcases List.mem_append.mp h with h | h
  · exact tin__r12 w h
  rcases List.mem_append.mp h with h | h
  · exact tin__r13 w h
  rcases List.mem_append.mp h with h | h
  · exact tin__r14 w h
  rcases List.mem_append.mp h with h | h
  · exact tin__r15 w h
  rcases List.mem_append.mp h with h | h
  · exact tin__r16 w h
  rcases List.mem_append.mp h with h | h
  · exact tin__r17 w h
  rcases List.mem_append.mp h with h | h
  · exact tin__r18 w h
  rcases List.mem_append.mp h with h | h
  · exact tin__r19 w h
  rcases List.mem_append.mp h with h | h
  · exact tin__r20 w h
  rcases List.mem_append.mp h with h | h
  · exact tin__r21 w h
  rcases List.mem_append.mp h with h | h
  · exact tin__r22 w h
  rcases List.mem_append.mp h with h | h
  · exact tin__r23 w h
  rcases List.mem_append.mp h with h | h
  · exact tin__r24 w h
  rcases List.mem_append.mp h with h | h
  · exact tin__r25 w h
  rcases List.mem_append.mp h with h | h
  · exact tin__r26 w h
  rcases List.mem_append.mp h with h | h
  · exact tin__r27 w h
  rcases List.mem_append.mp h with h | h
  · exact tin__r28 w h
  rcases List.mem_append.mp h with h | h
  · exact tin__r29 w h
  rcases List.mem_append.mp h with h | h
  · exact tin__r30 w h
  rcases List.mem_append.mp h with h | h
  · exact tin__r31 w h
  rcases List.mem_append.mp h with h | h
  · exact tin__r32 w h
  rcases List.mem_append.mp h with h | h
  · exact tin_X0 w h
  rcases List.mem_append.mp h with h | h
  · exact tin_X3 w h
  rcases List.mem_append.mp h with h | h
  · exact tin_X4 w h
  rcases List.mem_append.mp h with h | h
  · exact tin_X6 w h
  exact tin_X7 w h
