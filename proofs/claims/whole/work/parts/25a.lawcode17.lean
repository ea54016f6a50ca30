def q_lw16 : List q_R := [
  (2250, .iconst (1), 2251, 0, 0, 0),
  (2251, .ireturn, 2252, 0, 0, 0)]
set_option maxRecDepth 1000000 in
theorem q_lc16 : q_rsk "ReedSheetsLaw" "law" code q_lw16 [0, 0] = true := by decide +kernel
