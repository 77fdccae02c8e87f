/-- StringBuilder takes its private methods from AbstractStringBuilder -/
def sb_sels : List Cond := [Cond.selects RJ4 yJ5_newCapacity_0f7a4 yJ5_newCapacity_0f7a4, Cond.selects RJ4 yJ5_ensureCapacityInternal_d00df yJ5_ensureCapacityInternal_d00df, Cond.selects RJ4 yJ5_inflateIfNeededFor_a7421 yJ5_inflateIfNeededFor_a7421, Cond.selects RJ4 yJ5_putStringAt_47b60 yJ5_putStringAt_47b60]
def gW : List Cond := (sb_sels ++ lw_tbl).filter goodWord
theorem gw_p {w : Cond} (h : w ∈ sb_sels) (hg : goodWord w = true) : w ∈ gW := List.mem_filter.mpr ⟨List.mem_append_left _ h, hg⟩
theorem gw_t {w : Cond} (h : w ∈ tables_1) (hg : goodWord w = true) : w ∈ gW := List.mem_filter.mpr ⟨List.mem_append_right _ (List.mem_append_right _ h), hg⟩
theorem gw_s {q : MethodName × Nat} (h : q ∈ lw_privs) : Cond.selects q.1.cls q.1 q.1 ∈ gW := List.mem_filter.mpr ⟨List.mem_append_right _ (List.mem_append_left _ (List.mem_map.mpr ⟨q, h, rfl⟩)), rfl⟩
theorem tb1 {w : Cond} (h : w ∈ tables_1_1) : w ∈ tables_1 := List.mem_append_left _ h
theorem tb2 {w : Cond} (h : w ∈ tables_1_2) : w ∈ tables_1 := List.mem_append_right _ (List.mem_append_left _ h)
theorem tb3 {w : Cond} (h : w ∈ tables_1_3) : w ∈ tables_1 := List.mem_append_right _ (List.mem_append_right _ (List.mem_append_left _ h))
theorem tb4 {w : Cond} (h : w ∈ tables_1_4) : w ∈ tables_1 := List.mem_append_right _ (List.mem_append_right _ (List.mem_append_right _ (List.mem_append_left _ h)))
theorem tb5 {w : Cond} (h : w ∈ tables_1_5) : w ∈ tables_1 := List.mem_append_right _ (List.mem_append_right _ (List.mem_append_right _ (List.mem_append_right _ (List.mem_append_left _ h))))
theorem tb6 {w : Cond} (h : w ∈ tables_1_6) : w ∈ tables_1 := List.mem_append_right _ (List.mem_append_right _ (List.mem_append_right _ (List.mem_append_right _ (List.mem_append_right _ (h)))))
theorem lp1_ {w : MethodName × Nat} (h : w ∈ lw_privs_1) : w ∈ lw_privs := List.mem_append_left _ h
theorem lp2_ {w : MethodName × Nat} (h : w ∈ lw_privs_2) : w ∈ lw_privs := List.mem_append_right _ (List.mem_append_left _ h)
theorem lp3_ {w : MethodName × Nat} (h : w ∈ lw_privs_3) : w ∈ lw_privs := List.mem_append_right _ (List.mem_append_right _ (List.mem_append_left _ h))
theorem lp4_ {w : MethodName × Nat} (h : w ∈ lw_privs_4) : w ∈ lw_privs := List.mem_append_right _ (List.mem_append_right _ (List.mem_append_right _ (h)))
theorem gW_good : ∀ w ∈ gW, goodWord w = true := fun w h => (List.mem_filter.mp h).2
theorem gW_in : ∀ w ∈ gW, w ∈ sb_sels ++ lw_tbl := fun w h => (List.mem_filter.mp h).1
set_option maxRecDepth 20000 in
theorem inGX0_a : ∀ w ∈ wsX00, w ∈ tables_1 := by decide +kernel
set_option maxRecDepth 20000 in
theorem inGX0_b : ∀ w ∈ wsX00, goodWord w = true := by decide +kernel
theorem inGX0 : ∀ w ∈ u_ws RX0 TX0 7, w ∈ gW := fun w h => gw_t (inGX0_a w h) (inGX0_b w h)
set_option maxRecDepth 20000 in
theorem inGX1_a : ∀ w ∈ wsX10, w ∈ tables_1 := by decide +kernel
set_option maxRecDepth 20000 in
theorem inGX1_b : ∀ w ∈ wsX10, goodWord w = true := by decide +kernel
theorem inGX1 : ∀ w ∈ u_ws RX1 TX1 8, w ∈ gW := fun w h => gw_t (inGX1_a w h) (inGX1_b w h)
set_option maxRecDepth 20000 in
theorem inGX2_a : ∀ w ∈ wsX20, w ∈ tables_1 := by decide +kernel
set_option maxRecDepth 20000 in
theorem inGX2_b : ∀ w ∈ wsX20, goodWord w = true := by decide +kernel
theorem inGX2 : ∀ w ∈ u_ws RX2 TX2 3, w ∈ gW := fun w h => gw_t (inGX2_a w h) (inGX2_b w h)
set_option maxRecDepth 20000 in
theorem inGX3_a : ∀ w ∈ wsX30, w ∈ tables_1 := by decide +kernel
set_option maxRecDepth 20000 in
theorem inGX3_b : ∀ w ∈ wsX30, goodWord w = true := by decide +kernel
theorem inGX3 : ∀ w ∈ u_ws RX3 TX3 4, w ∈ gW := fun w h => gw_t (inGX3_a w h) (inGX3_b w h)
set_option maxRecDepth 20000 in
theorem inGX4_a : ∀ w ∈ wsX40, w ∈ tables_1 := by decide +kernel
set_option maxRecDepth 20000 in
theorem inGX4_b : ∀ w ∈ wsX40, goodWord w = true := by decide +kernel
theorem inGX4 : ∀ w ∈ u_ws RX4 TX4 17, w ∈ gW := fun w h => gw_t (inGX4_a w h) (inGX4_b w h)
set_option maxRecDepth 20000 in
theorem inGX5_a : ∀ w ∈ wsX50, w ∈ tables_1 := by decide +kernel
set_option maxRecDepth 20000 in
theorem inGX5_b : ∀ w ∈ wsX50, goodWord w = true := by decide +kernel
theorem inGX5 : ∀ w ∈ u_ws RX5 TX5 11, w ∈ gW := fun w h => gw_t (inGX5_a w h) (inGX5_b w h)
set_option maxRecDepth 20000 in
theorem inGX6_a : ∀ w ∈ wsX60, w ∈ tables_1 := by decide +kernel
set_option maxRecDepth 20000 in
theorem inGX6_b : ∀ w ∈ wsX60, goodWord w = true := by decide +kernel
theorem inGX6 : ∀ w ∈ u_ws RX6 TX6 6, w ∈ gW := fun w h => gw_t (inGX6_a w h) (inGX6_b w h)
set_option maxRecDepth 20000 in
theorem inGX7_a : ∀ w ∈ wsX70, w ∈ tables_1 := by decide +kernel
set_option maxRecDepth 20000 in
theorem inGX7_b : ∀ w ∈ wsX70, goodWord w = true := by decide +kernel
theorem inGX7 : ∀ w ∈ u_ws RX7 TX7 4, w ∈ gW := fun w h => gw_t (inGX7_a w h) (inGX7_b w h)
set_option maxRecDepth 20000 in
theorem inGX8_a : ∀ w ∈ wsX80, w ∈ tables_1 := by decide +kernel
set_option maxRecDepth 20000 in
theorem inGX8_b : ∀ w ∈ wsX80, goodWord w = true := by decide +kernel
theorem inGX8 : ∀ w ∈ u_ws RX8 TX8 14, w ∈ gW := fun w h => gw_t (inGX8_a w h) (inGX8_b w h)
set_option maxRecDepth 20000 in
theorem inGX9_a : ∀ w ∈ wsX90, w ∈ tables_1 := by decide +kernel
set_option maxRecDepth 20000 in
theorem inGX9_b : ∀ w ∈ wsX90, goodWord w = true := by decide +kernel
theorem inGX9 : ∀ w ∈ u_ws RX9 TX9 11, w ∈ gW := fun w h => gw_t (inGX9_a w h) (inGX9_b w h)
set_option maxRecDepth 20000 in
theorem inGX10_a : ∀ w ∈ wsX100, w ∈ tables_1 := by decide +kernel
set_option maxRecDepth 20000 in
theorem inGX10_b : ∀ w ∈ wsX100, goodWord w = true := by decide +kernel
theorem inGX10 : ∀ w ∈ u_ws RX10 TX10 0, w ∈ gW := fun w h => gw_t (inGX10_a w h) (inGX10_b w h)
set_option maxRecDepth 20000 in
theorem inGX11_a : ∀ w ∈ wsX110, w ∈ tables_1 := by decide +kernel
set_option maxRecDepth 20000 in
theorem inGX11_b : ∀ w ∈ wsX110, goodWord w = true := by decide +kernel
theorem inGX11 : ∀ w ∈ u_ws RX11 TX11 0, w ∈ gW := fun w h => gw_t (inGX11_a w h) (inGX11_b w h)
set_option maxRecDepth 20000 in
theorem inGJx145de_a : ∀ w ∈ wsJx145de0, w ∈ tables_1 := by decide +kernel
set_option maxRecDepth 20000 in
theorem inGJx145de_b : ∀ w ∈ wsJx145de0, goodWord w = true := by decide +kernel
theorem inGJx145de : ∀ w ∈ u_ws RJx145de TJx145de 0, w ∈ gW := fun w h => gw_t (inGJx145de_a w h) (inGJx145de_b w h)
set_option maxRecDepth 20000 in
theorem inGJ5_a : ∀ w ∈ wsJ50, w ∈ tables_1 := by decide +kernel
set_option maxRecDepth 20000 in
theorem inGJ5_b : ∀ w ∈ wsJ50, goodWord w = true := by decide +kernel
theorem inGJ5 : ∀ w ∈ u_ws RJ5 TJ5 0, w ∈ gW := fun w h => gw_t (inGJ5_a w h) (inGJ5_b w h)
set_option maxRecDepth 20000 in
theorem inGJx2cfe8_a : ∀ w ∈ wsJx2cfe80, w ∈ tables_1 := by decide +kernel
set_option maxRecDepth 20000 in
theorem inGJx2cfe8_b : ∀ w ∈ wsJx2cfe80, goodWord w = true := by decide +kernel
theorem inGJx2cfe8 : ∀ w ∈ u_ws RJx2cfe8 TJx2cfe8 0, w ∈ gW := fun w h => gw_t (inGJx2cfe8_a w h) (inGJx2cfe8_b w h)
set_option maxRecDepth 20000 in
theorem inGJx9f9b0_a : ∀ w ∈ wsJx9f9b00, w ∈ tables_1 := by decide +kernel
set_option maxRecDepth 20000 in
theorem inGJx9f9b0_b : ∀ w ∈ wsJx9f9b00, goodWord w = true := by decide +kernel
theorem inGJx9f9b0 : ∀ w ∈ u_ws RJx9f9b0 TJx9f9b0 0, w ∈ gW := fun w h => gw_t (inGJx9f9b0_a w h) (inGJx9f9b0_b w h)
set_option maxRecDepth 20000 in
theorem inGJ11_a : ∀ w ∈ wsJ110, w ∈ tables_1 := by decide +kernel
set_option maxRecDepth 20000 in
theorem inGJ11_b : ∀ w ∈ wsJ110, goodWord w = true := by decide +kernel
theorem inGJ11 : ∀ w ∈ u_ws RJ11 TJ11 0, w ∈ gW := fun w h => gw_t (inGJ11_a w h) (inGJ11_b w h)
set_option maxRecDepth 20000 in
theorem inGJx8e188_a : ∀ w ∈ wsJx8e1880, w ∈ tables_1 := by decide +kernel
set_option maxRecDepth 20000 in
theorem inGJx8e188_b : ∀ w ∈ wsJx8e1880, goodWord w = true := by decide +kernel
theorem inGJx8e188 : ∀ w ∈ u_ws RJx8e188 TJx8e188 0, w ∈ gW := fun w h => gw_t (inGJx8e188_a w h) (inGJx8e188_b w h)
set_option maxRecDepth 20000 in
theorem inGJxb160c_a : ∀ w ∈ wsJxb160c0, w ∈ tables_1 := by decide +kernel
set_option maxRecDepth 20000 in
theorem inGJxb160c_b : ∀ w ∈ wsJxb160c0, goodWord w = true := by decide +kernel
theorem inGJxb160c : ∀ w ∈ u_ws RJxb160c TJxb160c 0, w ∈ gW := fun w h => gw_t (inGJxb160c_a w h) (inGJxb160c_b w h)
set_option maxRecDepth 20000 in
theorem inGJ6_a : ∀ w ∈ wsJ60, w ∈ tables_1 := by decide +kernel
set_option maxRecDepth 20000 in
theorem inGJ6_b : ∀ w ∈ wsJ60, goodWord w = true := by decide +kernel
theorem inGJ6 : ∀ w ∈ u_ws RJ6 TJ6 0, w ∈ gW := fun w h => gw_t (inGJ6_a w h) (inGJ6_b w h)
set_option maxRecDepth 20000 in
theorem inGJ9_a : ∀ w ∈ wsJ90, w ∈ tables_1 := by decide +kernel
set_option maxRecDepth 20000 in
theorem inGJ9_b : ∀ w ∈ wsJ90, goodWord w = true := by decide +kernel
theorem inGJ9 : ∀ w ∈ u_ws RJ9 TJ9 0, w ∈ gW := fun w h => gw_t (inGJ9_a w h) (inGJ9_b w h)
set_option maxRecDepth 20000 in
theorem inGJxd2413_a : ∀ w ∈ wsJxd24130, w ∈ tables_1 := by decide +kernel
set_option maxRecDepth 20000 in
theorem inGJxd2413_b : ∀ w ∈ wsJxd24130, goodWord w = true := by decide +kernel
theorem inGJxd2413 : ∀ w ∈ u_ws RJxd2413 TJxd2413 0, w ∈ gW := fun w h => gw_t (inGJxd2413_a w h) (inGJxd2413_b w h)
set_option maxRecDepth 20000 in
theorem inGJ0_a : ∀ w ∈ wsJ00, w ∈ tables_1 := by decide +kernel
set_option maxRecDepth 20000 in
theorem inGJ0_b : ∀ w ∈ wsJ00, goodWord w = true := by decide +kernel
theorem inGJ0 : ∀ w ∈ u_ws RJ0 TJ0 4, w ∈ gW := fun w h => gw_t (inGJ0_a w h) (inGJ0_b w h)
set_option maxRecDepth 20000 in
theorem inGJ4_a : ∀ w ∈ wsJ40, w ∈ tables_1 := by decide +kernel
set_option maxRecDepth 20000 in
theorem inGJ4_b : ∀ w ∈ wsJ40, goodWord w = true := by decide +kernel
theorem inGJ4 : ∀ w ∈ u_ws RJ4 TJ4 4, w ∈ gW := fun w h => gw_t (inGJ4_a w h) (inGJ4_b w h)
set_option maxRecDepth 20000 in
theorem inGJ1_a : ∀ w ∈ wsJ10, w ∈ tables_1 := by decide +kernel
set_option maxRecDepth 20000 in
theorem inGJ1_b : ∀ w ∈ wsJ10, goodWord w = true := by decide +kernel
theorem inGJ1 : ∀ w ∈ u_ws RJ1 TJ1 0, w ∈ gW := fun w h => gw_t (inGJ1_a w h) (inGJ1_b w h)
set_option maxRecDepth 20000 in
theorem inGJ2_a : ∀ w ∈ wsJ20, w ∈ tables_1 := by decide +kernel
set_option maxRecDepth 20000 in
theorem inGJ2_b : ∀ w ∈ wsJ20, goodWord w = true := by decide +kernel
theorem inGJ2 : ∀ w ∈ u_ws RJ2 TJ2 0, w ∈ gW := fun w h => gw_t (inGJ2_a w h) (inGJ2_b w h)
set_option maxRecDepth 20000 in
theorem inGJ10_a : ∀ w ∈ wsJ100, w ∈ tables_1 := by decide +kernel
set_option maxRecDepth 20000 in
theorem inGJ10_b : ∀ w ∈ wsJ100, goodWord w = true := by decide +kernel
theorem inGJ10 : ∀ w ∈ u_ws RJ10 TJ10 0, w ∈ gW := fun w h => gw_t (inGJ10_a w h) (inGJ10_b w h)
set_option maxRecDepth 20000 in
theorem inGJxfd54e_a : ∀ w ∈ wsJxfd54e0, w ∈ tables_1 := by decide +kernel
set_option maxRecDepth 20000 in
theorem inGJxfd54e_b : ∀ w ∈ wsJxfd54e0, goodWord w = true := by decide +kernel
theorem inGJxfd54e : ∀ w ∈ u_ws RJxfd54e TJxfd54e 0, w ∈ gW := fun w h => gw_t (inGJxfd54e_a w h) (inGJxfd54e_b w h)
set_option maxRecDepth 20000 in
theorem inGJx3cf43_a : ∀ w ∈ wsJx3cf430, w ∈ tables_1 := by decide +kernel
set_option maxRecDepth 20000 in
theorem inGJx3cf43_b : ∀ w ∈ wsJx3cf430, goodWord w = true := by decide +kernel
theorem inGJx3cf43 : ∀ w ∈ u_ws RJx3cf43 TJx3cf43 0, w ∈ gW := fun w h => gw_t (inGJx3cf43_a w h) (inGJx3cf43_b w h)
set_option maxRecDepth 20000 in
theorem inGJ7_a : ∀ w ∈ wsJ70, w ∈ tables_1 := by decide +kernel
set_option maxRecDepth 20000 in
theorem inGJ7_b : ∀ w ∈ wsJ70, goodWord w = true := by decide +kernel
theorem inGJ7 : ∀ w ∈ u_ws RJ7 TJ7 0, w ∈ gW := fun w h => gw_t (inGJ7_a w h) (inGJ7_b w h)
set_option maxRecDepth 20000 in
theorem inGJ8_a : ∀ w ∈ wsJ80, w ∈ tables_1 := by decide +kernel
set_option maxRecDepth 20000 in
theorem inGJ8_b : ∀ w ∈ wsJ80, goodWord w = true := by decide +kernel
theorem inGJ8 : ∀ w ∈ u_ws RJ8 TJ8 0, w ∈ gW := fun w h => gw_t (inGJ8_a w h) (inGJ8_b w h)
set_option maxRecDepth 20000 in
theorem inGJ3_a : ∀ w ∈ wsJ30, w ∈ tables_1 := by decide +kernel
set_option maxRecDepth 20000 in
theorem inGJ3_b : ∀ w ∈ wsJ30, goodWord w = true := by decide +kernel
theorem inGJ3 : ∀ w ∈ u_ws RJ3 TJ3 0, w ∈ gW := fun w h => gw_t (inGJ3_a w h) (inGJ3_b w h)
/-- links to a nest mate's private members -/
def nws : List Cond := [Cond.methodLinkNest "MarkovBench" 15 ⟨"MarkovBench$Tokens","<init>","()V"⟩ "MarkovBench",
  Cond.fieldLinkNest "MarkovBench$Parser" 199 "MarkovBench$Tokens" "kinds" "[I" "MarkovBench",
  Cond.fieldLinkNest "MarkovBench$Parser" 133 "MarkovBench$Tokens" "starts" "[I" "MarkovBench",
  Cond.fieldLinkNest "MarkovBench$Parser" 73 "MarkovBench$Tokens" "size" "I" "MarkovBench",
  Cond.methodLinkNest "MarkovBench" 22 ⟨"MarkovBench$Code","<init>","()V"⟩ "MarkovBench",
  Cond.methodLinkNest "MarkovBench" 29 ⟨"MarkovBench$Program","<init>","()V"⟩ "MarkovBench",
  Cond.fieldLinkNest "MarkovBench$Parser" 54 "MarkovBench$Program" "variableCount" "I" "MarkovBench",
  Cond.fieldLinkNest "MarkovBench" 120 "MarkovBench$Program" "variableCount" "I" "MarkovBench",
  Cond.fieldLinkNest "MarkovBench$States" 88 "MarkovBench$Program" "variableCount" "I" "MarkovBench",
  Cond.fieldLinkNest "MarkovBench$States" 49 "MarkovBench$Program" "firstValues" "[I" "MarkovBench",
  Cond.fieldLinkNest "MarkovBench$States" 132 "MarkovBench$Program" "least" "[I" "MarkovBench",
  Cond.fieldLinkNest "MarkovBench$States" 135 "MarkovBench$Program" "greatest" "[I" "MarkovBench",
  Cond.fieldLinkNest "MarkovBench$Planner" 41 "MarkovBench$Program" "gainCount" "I" "MarkovBench",
  Cond.fieldLinkNest "MarkovBench$Parser" 115 "MarkovBench$Program" "gainCount" "I" "MarkovBench",
  Cond.fieldLinkNest "MarkovBench" 123 "MarkovBench$Program" "gainCount" "I" "MarkovBench",
  Cond.fieldLinkNest "MarkovBench$States" 93 "MarkovBench$Program" "gainCount" "I" "MarkovBench",
  Cond.fieldLinkNest "MarkovBench$States" 82 "MarkovBench$Program" "gainCommands" "[I" "MarkovBench",
  Cond.fieldLinkNest "MarkovBench$States" 96 "MarkovBench$Program" "gainExpressions" "[I" "MarkovBench",
  Cond.fieldLinkNest "MarkovBench$Parser" 130 "MarkovBench$Program" "goalExpression" "I" "MarkovBench",
  Cond.fieldLinkNest "MarkovBench$States" 105 "MarkovBench$Program" "goalExpression" "I" "MarkovBench",
  Cond.fieldLinkNest "MarkovBench$Parser" 59 "MarkovBench$Program" "commandCount" "I" "MarkovBench",
  Cond.fieldLinkNest "MarkovBench" 126 "MarkovBench$Program" "commandCount" "I" "MarkovBench",
  Cond.fieldLinkNest "MarkovBench$States" 108 "MarkovBench$Program" "commandCount" "I" "MarkovBench",
  Cond.fieldLinkNest "MarkovBench$States" 138 "MarkovBench$Program" "commandStarts" "[I" "MarkovBench",
  Cond.fieldLinkNest "MarkovBench$States" 111 "MarkovBench$Program" "whenExpressions" "[I" "MarkovBench",
  Cond.fieldLinkNest "MarkovBench$States" 72 "MarkovBench$Program" "branchCounts" "[I" "MarkovBench",
  Cond.fieldLinkNest "MarkovBench$States" 79 "MarkovBench$Program" "chances" "[I" "MarkovBench",
  Cond.fieldLinkNest "MarkovBench$States" 129 "MarkovBench$Program" "setExpressions" "[I" "MarkovBench",
  Cond.fieldLinkNest "MarkovBench" 111 "MarkovBench$Parser" "error" "I" "MarkovBench",
  Cond.fieldLinkNest "MarkovBench" 114 "MarkovBench$Parser" "errorPosition" "I" "MarkovBench",
  Cond.fieldLinkNest "MarkovBench$Planner" 37 "MarkovBench$States" "program" "LMarkovBench$Program;" "MarkovBench",
  Cond.fieldLinkNest "MarkovBench$Planner" 28 "MarkovBench$States" "stateCount" "I" "MarkovBench",
  Cond.fieldLinkNest "MarkovBench" 129 "MarkovBench$States" "stateCount" "I" "MarkovBench",
  Cond.fieldLinkNest "MarkovBench$Planner" 70 "MarkovBench$States" "choiceCounts" "[I" "MarkovBench",
  Cond.fieldLinkNest "MarkovBench" 165 "MarkovBench$States" "choiceCounts" "[I" "MarkovBench",
  Cond.fieldLinkNest "MarkovBench" 119 "MarkovBench$States" "errorPosition" "I" "MarkovBench",
  Cond.methodLinkNest "MarkovBench" 77 ⟨"MarkovBench$Strategy","<init>","()V"⟩ "MarkovBench",
  Cond.fieldLinkNest "MarkovBench$Planner" 90 "MarkovBench$Strategy" "weights" "[I" "MarkovBench",
  Cond.fieldLinkNest "MarkovBench" 198 "MarkovBench$Strategy" "weights" "[I" "MarkovBench",
  Cond.fieldLinkNest "MarkovBench$Planner" 22 "MarkovBench$Strategy" "steps" "I" "MarkovBench",
  Cond.fieldLinkNest "MarkovBench" 199 "MarkovBench$Strategy" "steps" "I" "MarkovBench",
  Cond.fieldLinkNest "MarkovBench$Planner" 87 "MarkovBench$Strategy" "taken" "[I" "MarkovBench",
  Cond.fieldLinkNest "MarkovBench$Planner" 80 "MarkovBench$Strategy" "worths" "[J" "MarkovBench",
  Cond.fieldLinkNest "MarkovBench" 212 "MarkovBench$Strategy" "worths" "[J" "MarkovBench",
  Cond.fieldLinkNest "MarkovBench$Planner" 46 "MarkovBench$Strategy" "brought" "[J" "MarkovBench",
  Cond.fieldLinkNest "MarkovBench" 219 "MarkovBench$Strategy" "brought" "[J" "MarkovBench",
  Cond.fieldLinkNest "MarkovBench$Planner" 57 "MarkovBench$Strategy" "goalChance" "I" "MarkovBench",
  Cond.fieldLinkNest "MarkovBench" 222 "MarkovBench$Strategy" "goalChance" "I" "MarkovBench",
  Cond.methodLinkNest "MarkovBench$States" 68 ⟨"MarkovBench","entry","([II)I"⟩ "MarkovBench",
  Cond.methodLinkNest "MarkovBench$States" 85 ⟨"MarkovBench","entry","([JI)J"⟩ "MarkovBench",
  Cond.methodLinkNest "MarkovBench$Planner" 126 ⟨"MarkovBench","entry","([JI)J"⟩ "MarkovBench",
  Cond.methodLinkNest "MarkovBench$Strategy" 25 ⟨"MarkovBench","entry","([II)I"⟩ "MarkovBench",
  Cond.methodLinkNest "MarkovBenchLaw$Walk" 14 ⟨"MarkovBenchLaw","cell","([II)I"⟩ "MarkovBenchLaw",
  Cond.methodLinkNest "MarkovBenchLaw$Walk" 20 ⟨"MarkovBenchLaw","below","(II)I"⟩ "MarkovBenchLaw",
  Cond.methodLinkNest "MarkovBench$Parser" 137 ⟨"MarkovBench","entry","([II)I"⟩ "MarkovBench",
  Cond.methodLinkNest "MarkovBench$Code" 39 ⟨"MarkovBench","entry","([II)I"⟩ "MarkovBench",
  Cond.castable "[B" "java/lang/Cloneable"]
theorem nws_t : ∀ w ∈ nws, w ∈ tables_1 := by decide +kernel
